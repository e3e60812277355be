section FI
variable {γ : jG} {h h' : jM} {ρ σ : Nat → Nat} {x : Nat} {ks ss cs ls ms : List Nat} {V V' U : VV} {S : Nat → Prop}
theorem cf_ct94 {k : jM} {a g sz : Nat} {n sel dy : Int} {c1 c2 : Nat} (hc1 : c1 ≤ 8) (hc2 : c2 ≤ 60) (I : Inv V) (hR : RepB γ V h x ρ σ ks ss cs ls ms) (hG : ctG V n sel dy) (hsz : at' ss sel sz) (C1 : CFx γ k a g sz (V 16 11) dy (1000 + cs.length)) (af : h.tag a = 0) (gf : h.tag g = 0) (F1 : Fr h k (fun _ => False)) : ∀ lv, hasL lv [(0, .ref x), (1, .int (jI n)), (5, .ref a)] → J γ mX11_contract 11 1100 10000 c1 c2 k 94 lv [] (ccQ γ x h V n sel dy) (ccX h V n sel dy) := by
  intro lv hlv
  have R := I.1
  have Rf := R.f
  have hR0 := hR
  obtain ⟨a1, a2, a3, a4, a5, a6, a7, a8, a9, a10, a11⟩ := hR0
  obtain ⟨x0, x1, x2, x3, x4, x5, x6, x7, x8, x9, x10⟩ := a1
  obtain ⟨e0, T0, B0, hT0⟩ := a9
  have hn := hG.2.1
  have K1 : isK γ k := a11.kept F1 (fun _ _ _ z => z)
  refine J.lc hlv ?_
  refine J.new (pc' := 97) (t := 6) (N := 5) (n := 5) rfl ⟨by decide, by decide, _, rfl, rfl, List.mem_of_getElem? (i := 666) (by decide +kernel), List.mem_of_getElem? (i := 667) (by decide +kernel), List.mem_of_getElem? (i := 92) (by decide +kernel)⟩ (by first | omega | (exact R.r _ _) | (simp only [jM.len_sI, jM.len_sL, jM.len_sR, jM.len_fI, jM.len_fL, jM.len_fR]; omega) | (simp [jM.len_nw, jM.len_sI, jM.len_sL, jM.len_sR, jM.len_fI, jM.len_fL, jM.len_fR, *]; omega)) (by first | omega | (exact R.r _ _) | (simp only [jM.len_sI, jM.len_sL, jM.len_sR, jM.len_fI, jM.len_fL, jM.len_fR]; omega) | (simp [jM.len_nw, jM.len_sI, jM.len_sL, jM.len_sR, jM.len_fI, jM.len_fL, jM.len_fR, *]; omega)) rfl (fun rd rdf rdb => ?_)
  have f2 : Fr k (k.nw rd 6 5) (fun _ => False) := Fr.stN Fr.rf rdf
  have tr2 : (k.nw rd 6 5).tag rd = 6 := by rw [jM.tag_nw, if_pos rfl]
  have F2 : Fr h (k.nw rd 6 5) (fun _ => False) := F1.trans f2 (fun _ _ z => z.elim id id)
  have C2 := C1.kept f2 K1.2.2.2.2 id id
  have rf : h.tag rd = 0 := F1.free rdf
  generalize k.nw rd 6 5 = k2 at f2 tr2 F2 C2 ⊢
  have K2 : isK γ k2 := a11.kept F2 (fun _ _ _ z => z)
  have tx2 := F2.tag x0 (by decide)
  have rx2 : k2.R 15 x 8 = some (ρ 8) := by rw [F2.R x0 (by decide) id]; exact x9
  have B2 : isSB γ k2 (ρ 8) e0 (V 16 10) T0 := B0.keptW F2 id id
  have tt2 := B2.1
  refine J.dup (pc' := 98) rfl rfl rfl ?_
  first | refine J.aload_n (pc' := 99) rfl rfl rfl ?_ | refine J.aload_nN (pc' := 99) rfl rfl rfl ?_
  first | refine J.getR (pc' := 102) rfl fl_X11_51 rfl (by first | assumption | (simp only [jM.tag_sI, jM.tag_sL, jM.tag_sR, jM.tag_fI, jM.tag_fL, jM.tag_fR]; assumption) | (simp [jM.tag_nw, jM.tag_sI, jM.tag_sL, jM.tag_sR, jM.tag_fI, jM.tag_fL, jM.tag_fR, *]; done)) (by first | assumption | (simp only [jM.R_sI, jM.R_sL, jM.R_fI, jM.R_fL]; assumption) | (simp [jM.R_nw, jM.R_sR, jM.R_fR, jM.R_sI, jM.R_sL, jM.R_fI, jM.R_fL, *]; done)) rfl ?_ | refine J.getRN (pc' := 102) rfl fl_X11_51 rfl (by first | assumption | (simp only [jM.tag_sI, jM.tag_sL, jM.tag_sR, jM.tag_fI, jM.tag_fL, jM.tag_fR]; assumption) | (simp [jM.tag_nw, jM.tag_sI, jM.tag_sL, jM.tag_sR, jM.tag_fI, jM.tag_fL, jM.tag_fR, *]; done)) (by first | assumption | (simp only [jM.R_sI, jM.R_sL, jM.R_fI, jM.R_fL]; assumption) | (simp [jM.R_nw, jM.R_sR, jM.R_fR, jM.R_sI, jM.R_sL, jM.R_fI, jM.R_fL, *]; done)) rfl ?_
  refine J.callV (pc' := 105) (t := 2) rfl MJ4_toString_0e30d ml_X11_125 iv_J4_toString_0e30d (by decide) ⟨_, rfl, rfl⟩ (by first | assumption | (simp only [jM.tag_sI, jM.tag_sL, jM.tag_sR, jM.tag_fI, jM.tag_fL, jM.tag_fR]; assumption) | (simp [jM.tag_nw, jM.tag_sI, jM.tag_sL, jM.tag_sR, jM.tag_fI, jM.tag_fL, jM.tag_fR, *]; done)) (cb_toString B2 I.2.2.2.2.2.2.1) rfl rfl (Nat.le_of_ble_eq_true rfl) (by first | omega | (exact R.r _ _) | (simp only [jM.len_sI, jM.len_sL, jM.len_sR, jM.len_fI, jM.len_fL, jM.len_fR]; omega) | (simp [jM.len_nw, jM.len_sI, jM.len_sL, jM.len_sR, jM.len_fI, jM.len_fL, jM.len_fR, *]; omega)) (by first | omega | (exact R.r _ _) | (simp only [jM.len_sI, jM.len_sL, jM.len_sR, jM.len_fI, jM.len_fL, jM.len_fR]; omega) | (simp [jM.len_nw, jM.len_sI, jM.len_sL, jM.len_sR, jM.len_fI, jM.len_fL, jM.len_fR, *]; omega)) (by first | omega | (exact R.r _ _) | (simp only [jM.len_sI, jM.len_sL, jM.len_sR, jM.len_fI, jM.len_fL, jM.len_fR]; omega) | (simp [jM.len_nw, jM.len_sI, jM.len_sL, jM.len_sR, jM.len_fI, jM.len_fL, jM.len_fR, *]; omega)) rfl rfl ?_ ?_
  · exact fun _ _ z => z.elim
  rintro _ k3 ⟨s1, q1, rfl, S3, f3, m3⟩
  have F3 : Fr h k3 (fun _ => False) := F2.trans f3 (fun _ _ z => z.elim id id)
  have K3 : isK γ k3 := a11.kept F3 (fun _ _ _ z => z)
  have ts3 := S3.1
  refine J.iconst (pc' := 106) rfl rfl ?_
  refine J.iload_n (pc' := 107) rfl rfl rfl ?_
  refine J.callV (pc' := 110) (t := 1) rfl MJ0_substring_37a41 ml_X11_129 iv_J0_substring_37a41 (by decide) ⟨_, rfl, rfl⟩ (by first | assumption | (simp only [jM.tag_sI, jM.tag_sL, jM.tag_sR, jM.tag_fI, jM.tag_fL, jM.tag_fR]; assumption) | (simp [jM.tag_nw, jM.tag_sI, jM.tag_sL, jM.tag_sR, jM.tag_fI, jM.tag_fL, jM.tag_fR, *]; done)) (cj_substr2 (x := 0) (y := n) S3 K3.k9 (by omega) (by omega) (by omega)) rfl rfl (Nat.le_of_ble_eq_true rfl) (by first | omega | (exact R.r _ _) | (simp only [jM.len_sI, jM.len_sL, jM.len_sR, jM.len_fI, jM.len_fL, jM.len_fR]; omega) | (simp [jM.len_nw, jM.len_sI, jM.len_sL, jM.len_sR, jM.len_fI, jM.len_fL, jM.len_fR, *]; omega)) (by first | omega | (exact R.r _ _) | (simp only [jM.len_sI, jM.len_sL, jM.len_sR, jM.len_fI, jM.len_fL, jM.len_fR]; omega) | (simp [jM.len_nw, jM.len_sI, jM.len_sL, jM.len_sR, jM.len_fI, jM.len_fL, jM.len_fR, *]; omega)) (by first | omega | (exact R.r _ _) | (simp only [jM.len_sI, jM.len_sL, jM.len_sR, jM.len_fI, jM.len_fL, jM.len_fR]; omega) | (simp [jM.len_nw, jM.len_sI, jM.len_sL, jM.len_sR, jM.len_fI, jM.len_fL, jM.len_fR, *]; omega)) rfl rfl ?_ ?_
  · exact fun _ _ z => z.elim
  rintro _ k4 ⟨s2, q2, rfl, S4, f4, m4, hq2⟩
  have F4 : Fr h k4 (fun _ => False) := F3.trans f4 (fun _ _ z => z.elim id id)
  have S4' : isSt k4 s2 q2 n (V 116) := by
    obtain ⟨d1, d2, d3, d4, d5, d6, d7⟩ := S4
    refine ⟨d1, d2, d3, d4, by omega, by omega, fun i hi => ?_⟩
    have d8 := d7 i (by omega)
    dsimp only at d8
    rw [Int.zero_add, hT0 i (by omega) (by omega)] at d8
    exact d8
  have tr4 : k4.tag rd = 6 := (f4.tag (f3.tag tr2 (by decide)) (by decide))
  have C4 := (C2.kept f3 K2.2.2.2.2 id id).kept f4 K3.2.2.2.2 id id
  have K4 : isK γ k4 := a11.kept F4 (fun _ _ _ z => z)
  first | refine J.aload (pc' := 112) rfl rfl rfl ?_ | refine J.aloadN (pc' := 112) rfl rfl rfl ?_
  refine J.callI (pc' := 115) rfl MX2_init ml_X11_135 iv_X2_init ⟨rfl, rfl⟩ (cx_Reader (c := a) tr4 S4' (by omega)) rfl rfl (Nat.le_of_ble_eq_true rfl) (by first | omega | (exact R.r _ _) | (simp only [jM.len_sI, jM.len_sL, jM.len_sR, jM.len_fI, jM.len_fL, jM.len_fR]; omega) | (simp [jM.len_nw, jM.len_sI, jM.len_sL, jM.len_sR, jM.len_fI, jM.len_fL, jM.len_fR, *]; omega)) (by first | omega | (exact R.r _ _) | (simp only [jM.len_sI, jM.len_sL, jM.len_sR, jM.len_fI, jM.len_fL, jM.len_fR]; omega) | (simp [jM.len_nw, jM.len_sI, jM.len_sL, jM.len_sR, jM.len_fI, jM.len_fL, jM.len_fR, *]; omega)) (by first | omega | (exact R.r _ _) | (simp only [jM.len_sI, jM.len_sL, jM.len_sR, jM.len_fI, jM.len_fL, jM.len_fR]; omega) | (simp [jM.len_nw, jM.len_sI, jM.len_sL, jM.len_sR, jM.len_fI, jM.len_fL, jM.len_fR, *]; omega)) rfl ?_
  rintro _ k5 ⟨rfl, R5, f5, t5⟩
  have ta4 := C4.1
  have tg4 := C4.2.2.1.1
  have F5 : Fr h k5 (fun _ => False) := F4.trans f5 (fun b hb z => by
    rcases z with z | z
    · exact z
    · rw [z] at hb; exact hb rf)
  have C5 := C4.kept f5 K4.2.2.2.2 (fun z => by rw [z] at ta4; omega) (fun z => by rw [z] at tg4; omega)
  have tx5 := F5.tag x0 (by decide)
  have rx5 : k5.R 15 x 8 = some (ρ 8) := by rw [F5.R x0 (by decide) id]; exact x9
  have B5 : isSB γ k5 (ρ 8) e0 (V 16 10) T0 := B0.keptW F5 id id
  have tt5 := B5.1
  have te5 := B5.2.2.1
  have K5 : isK γ k5 := a11.kept F5 (fun _ _ _ z => z)
  first | refine J.astore (pc' := 117) rfl rfl (by decide) ?_ | refine J.astoreN (pc' := 117) rfl rfl (by decide) ?_
  first | refine J.aload_n (pc' := 118) rfl rfl rfl ?_ | refine J.aload_nN (pc' := 118) rfl rfl rfl ?_
  first | refine J.getR (pc' := 121) rfl fl_X11_51 rfl (by first | assumption | (simp only [jM.tag_sI, jM.tag_sL, jM.tag_sR, jM.tag_fI, jM.tag_fL, jM.tag_fR]; assumption) | (simp [jM.tag_nw, jM.tag_sI, jM.tag_sL, jM.tag_sR, jM.tag_fI, jM.tag_fL, jM.tag_fR, *]; done)) (by first | assumption | (simp only [jM.R_sI, jM.R_sL, jM.R_fI, jM.R_fL]; assumption) | (simp [jM.R_nw, jM.R_sR, jM.R_fR, jM.R_sI, jM.R_sL, jM.R_fI, jM.R_fL, *]; done)) rfl ?_ | refine J.getRN (pc' := 121) rfl fl_X11_51 rfl (by first | assumption | (simp only [jM.tag_sI, jM.tag_sL, jM.tag_sR, jM.tag_fI, jM.tag_fL, jM.tag_fR]; assumption) | (simp [jM.tag_nw, jM.tag_sI, jM.tag_sL, jM.tag_sR, jM.tag_fI, jM.tag_fL, jM.tag_fR, *]; done)) (by first | assumption | (simp only [jM.R_sI, jM.R_sL, jM.R_fI, jM.R_fL]; assumption) | (simp [jM.R_nw, jM.R_sR, jM.R_fR, jM.R_sI, jM.R_sL, jM.R_fI, jM.R_fL, *]; done)) rfl ?_
  refine J.iconst (pc' := 122) rfl rfl ?_
  refine J.callV (pc' := 125) (t := 2) rfl MJ4_setLength_d00df ml_X11_138 iv_J4_setLength_d00df (by decide) ⟨_, rfl, rfl⟩ (by first | assumption | (simp only [jM.tag_sI, jM.tag_sL, jM.tag_sR, jM.tag_fI, jM.tag_fL, jM.tag_fR]; assumption) | (simp [jM.tag_nw, jM.tag_sI, jM.tag_sL, jM.tag_sR, jM.tag_fI, jM.tag_fL, jM.tag_fR, *]; done)) (cb_setLen B5) rfl rfl (Nat.le_of_ble_eq_true rfl) (by first | omega | (exact R.r _ _) | (simp only [jM.len_sI, jM.len_sL, jM.len_sR, jM.len_fI, jM.len_fL, jM.len_fR]; omega) | (simp [jM.len_nw, jM.len_sI, jM.len_sL, jM.len_sR, jM.len_fI, jM.len_fL, jM.len_fR, *]; omega)) (by first | omega | (exact R.r _ _) | (simp only [jM.len_sI, jM.len_sL, jM.len_sR, jM.len_fI, jM.len_fL, jM.len_fR]; omega) | (simp [jM.len_nw, jM.len_sI, jM.len_sL, jM.len_sR, jM.len_fI, jM.len_fL, jM.len_fR, *]; omega)) (by first | omega | (exact R.r _ _) | (simp only [jM.len_sI, jM.len_sL, jM.len_sR, jM.len_fI, jM.len_fL, jM.len_fR]; omega) | (simp [jM.len_nw, jM.len_sI, jM.len_sL, jM.len_sR, jM.len_fI, jM.len_fL, jM.len_fR, *]; omega)) rfl rfl ?_ ?_
  · exact fun _ _ z => z.elim
  rintro _ k6 ⟨rfl, e6, B6, f6, m6, g6⟩
  have be := B0.2.2.2.2.2.2.2.2.1
  have ta5 := C5.1
  have tg5 := C5.2.2.1.1
  have tr5 := R5.1
  have ts5 := R5.2.2.1.1
  have tq5 := R5.2.2.1.2.2.1
  have k6s : isSt k6 s2 q2 n (V 116) := by
    obtain ⟨d1, d2, d3, d4, d5, d6, d7⟩ := R5.2.2.1
    have hs : ¬ (s2 = ρ 8 ∨ s2 = e0) := fun z => by
      rcases z with z | z
      · rw [z] at d1; omega
      · rw [z] at d1; omega
    refine ⟨f6.tag d1 (by decide), by rw [f6.R d1 (by decide) hs]; exact d2, f6.tag d3 (by decide), by rw [f6.I d1 (by decide) hs]; exact d4, by rw [f6.len (by omega)]; exact d5, d6, fun i hi => ?_⟩
    have hqe : ¬ (q2 = ρ 8 ∨ q2 = e0) := fun z => by
      rcases z with z | z
      · rw [z] at d3; omega
      · rcases hq2 with w | w | w
        · have := F3.tag B0.2.2.1 (by decide)
          rw [← z, w] at this
          omega
        · have l1 := S3.2.2.2.2.1
          have l2 := F3.len (b := e0) (by rw [B0.2.2.1]; decide)
          rw [← w, z, l2] at l1
          have l3 := B0.2.2.2.2.2.2.2.1
          have l5 := I.2.2.2.2.2.2.1
          omega
        · omega
    rw [f6.I d3 (by decide) hqe]
    exact d7 i hi
  have hrd : ¬ (rd = ρ 8 ∨ rd = e0) := fun z => by
    rcases z with z | z
    · rw [z] at tr5; omega
    · rw [z] at tr5; omega
  have R6 : isRd k6 rd s2 q2 n (V 116) a 0 0 0 := by
    obtain ⟨d1, d2, d3, d4, d5, d6, d7, d8⟩ := R5
    exact ⟨f6.tag d1 (by decide), by rw [f6.R d1 (by decide) hrd]; exact d2, k6s, by rw [f6.R d1 (by decide) hrd]; exact d4, by rw [f6.I d1 (by decide) hrd]; exact d5, by rw [f6.I d1 (by decide) hrd]; exact d6, by rw [f6.I d1 (by decide) hrd]; exact d7, d8⟩
  have C6 := C5.kept f6 K5.2.2.2.2 (fun z => by rcases z with z | z <;> rw [z] at ta5 <;> omega) (fun z => by rcases z with z | z <;> rw [z] at tg5 <;> omega)
  have F6 : FrC h k6 (fun c => c = 2 ∨ c = 35) := F5.trans f6 (fun b hb z => by
    rcases z with z | z | z
    · exact z.elim
    · rw [z]; exact Or.inl (kc_o B0.1 (by decide))
    · rw [z]; exact Or.inr (kc_o B0.2.2.1 (by decide)))
  have K6 : isK γ k6 := K5.kept f6 (fun b hb ht z => by
    rcases z with z | z
    · rw [z, tt5] at ht; omega
    · rw [z] at hb; omega)
  exact cf_ct125 (a := a) (g := g) (sz := sz) (rd := rd) (by omega) (by omega) I hR hG hsz C6 R6 af gf rf F6 ⟨e6, B6⟩ K6 _ ⟨rfl, rfl, rfl, trivial⟩
theorem cf_contract {n sel dy : Int} (hn : r32 n) (hs : r32 sel) (hd : r32 dy) (I : Inv V) (hR : RepB γ V h x ρ σ ks ss cs ls ms) : CT γ mX11_contract 11 1100 10000 [.ref x, .int (jI n), .int (jI sel), .int (jI dy)] h (ccQ γ x h V n sel dy) (ccX h V n sel dy) := by
  have R := I.1
  have Rf := R.f
  have hR0 := hR
  obtain ⟨a1, a2, a3, a4, a5, a6, a7, a8, a9, a10, a11⟩ := hR0
  obtain ⟨x0, x1, x2, x3, x4, x5, x6, x7, x8, x9, x10⟩ := a1
  obtain ⟨e0, T0, B0, hT0⟩ := a9
  obtain ⟨⟨⟨e2, L2⟩, o2⟩, n2, E2⟩ := a4
  have tt := B0.1
  have tl := L2.1
  have l4 := L2.len
  refine CT.of MX11_contract (Nat.le_of_ble_eq_true rfl) ?_
  show J γ mX11_contract 11 1100 10000 0 0 h 0 [(0, .ref x), (1, .int (jI n)), (2, .int (jI sel)), (3, .int (jI dy))] [] _ _
  first | refine J.aload_n (pc' := 1) rfl rfl rfl ?_ | refine J.aload_nN (pc' := 1) rfl rfl rfl ?_
  refine J.iload_n (pc' := 2) rfl rfl rfl ?_
  refine J.callV (pc' := 5) (t := 15) rfl MX11_sellerOf ml_X11_100 iv_X11_sellerOf (by decide) ⟨_, rfl, rfl⟩ (by first | assumption | (simp only [jM.tag_sI, jM.tag_sL, jM.tag_sR, jM.tag_fI, jM.tag_fL, jM.tag_fR]; assumption) | (simp [jM.tag_nw, jM.tag_sI, jM.tag_sL, jM.tag_sR, jM.tag_fI, jM.tag_fL, jM.tag_fR, *]; done)) (cf_sellerOf hs hR) rfl rfl (Nat.le_of_ble_eq_true rfl) (by first | omega | (exact R.r _ _) | (simp only [jM.len_sI, jM.len_sL, jM.len_sR, jM.len_fI, jM.len_fL, jM.len_fR]; omega) | (simp [jM.len_nw, jM.len_sI, jM.len_sL, jM.len_sR, jM.len_fI, jM.len_fL, jM.len_fR, *]; omega)) (by first | omega | (exact R.r _ _) | (simp only [jM.len_sI, jM.len_sL, jM.len_sR, jM.len_fI, jM.len_fL, jM.len_fR]; omega) | (simp [jM.len_nw, jM.len_sI, jM.len_sL, jM.len_sR, jM.len_fI, jM.len_fL, jM.len_fR, *]; omega)) (by first | omega | (exact R.r _ _) | (simp only [jM.len_sI, jM.len_sL, jM.len_sR, jM.len_fI, jM.len_fL, jM.len_fR]; omega) | (simp [jM.len_nw, jM.len_sI, jM.len_sL, jM.len_sR, jM.len_fI, jM.len_fL, jM.len_fR, *]; omega)) rfl rfl ?_ ?_
  · rintro _ _ ⟨hc, rfl, rfl⟩
    exact ⟨rfl, Or.inl ⟨hc, rfl⟩⟩
  rintro _ h ⟨sz, rfl, as, cs1, rfl⟩
  first | refine J.astore (pc' := 7) rfl rfl (by decide) ?_ | refine J.astoreN (pc' := 7) rfl rfl (by decide) ?_
  refine J.iload_n (pc' := 8) rfl rfl rfl ?_
  refine J.if_lt (tgt := 22) (pc' := 11) rfl rfl rfl (by first | omega | (exact R.r _ _) | (simp only [jM.len_sI, jM.len_sL, jM.len_sR, jM.len_fI, jM.len_fL, jM.len_fR]; omega) | (simp [jM.len_nw, jM.len_sI, jM.len_sL, jM.len_sR, jM.len_fI, jM.len_fL, jM.len_fR, *]; omega)) (fun c1 => ?_) (fun c1 => ?_)
  · refine J.throwL (text := "more or fewer bytes than the tape has") rfl rfl rfl rfl rfl jThr_IAE (List.mem_of_getElem? (i := 582) (by decide +kernel)) (List.mem_of_getElem? (i := 619) (by decide +kernel)) rfl (by first | omega | (exact R.r _ _) | (simp only [jM.len_sI, jM.len_sL, jM.len_sR, jM.len_fI, jM.len_fL, jM.len_fR]; omega) | (simp [jM.len_nw, jM.len_sI, jM.len_sL, jM.len_sR, jM.len_fI, jM.len_fL, jM.len_fR, *]; omega)) (Nat.le_of_ble_eq_true rfl) (by first | omega | (exact R.r _ _) | (simp only [jM.len_sI, jM.len_sL, jM.len_sR, jM.len_fI, jM.len_fL, jM.len_fR]; omega) | (simp [jM.len_nw, jM.len_sI, jM.len_sL, jM.len_sR, jM.len_fI, jM.len_fL, jM.len_fR, *]; omega)) (by first | omega | (exact R.r _ _) | (simp only [jM.len_sI, jM.len_sL, jM.len_sR, jM.len_fI, jM.len_fL, jM.len_fR]; omega) | (simp [jM.len_nw, jM.len_sI, jM.len_sL, jM.len_sR, jM.len_fI, jM.len_fL, jM.len_fR, *]; omega)) ?_
    exact ⟨rfl, Or.inr (Or.inl ⟨cs1, by omega, rfl⟩)⟩
  · refine J.iload_n (pc' := 12) rfl rfl rfl ?_
    first | refine J.aload_n (pc' := 13) rfl rfl rfl ?_ | refine J.aload_nN (pc' := 13) rfl rfl rfl ?_
    first | refine J.getR (pc' := 16) rfl fl_X11_51 rfl (by first | assumption | (simp only [jM.tag_sI, jM.tag_sL, jM.tag_sR, jM.tag_fI, jM.tag_fL, jM.tag_fR]; assumption) | (simp [jM.tag_nw, jM.tag_sI, jM.tag_sL, jM.tag_sR, jM.tag_fI, jM.tag_fL, jM.tag_fR, *]; done)) (by first | assumption | (simp only [jM.R_sI, jM.R_sL, jM.R_fI, jM.R_fL]; assumption) | (simp [jM.R_nw, jM.R_sR, jM.R_fR, jM.R_sI, jM.R_sL, jM.R_fI, jM.R_fL, *]; done)) rfl ?_ | refine J.getRN (pc' := 16) rfl fl_X11_51 rfl (by first | assumption | (simp only [jM.tag_sI, jM.tag_sL, jM.tag_sR, jM.tag_fI, jM.tag_fL, jM.tag_fR]; assumption) | (simp [jM.tag_nw, jM.tag_sI, jM.tag_sL, jM.tag_sR, jM.tag_fI, jM.tag_fL, jM.tag_fR, *]; done)) (by first | assumption | (simp only [jM.R_sI, jM.R_sL, jM.R_fI, jM.R_fL]; assumption) | (simp [jM.R_nw, jM.R_sR, jM.R_fR, jM.R_sI, jM.R_sL, jM.R_fI, jM.R_fL, *]; done)) rfl ?_
    refine J.callV (pc' := 19) (t := 2) rfl MJ4_length_8abf5 ml_X11_94 iv_J4_length_8abf5 (by decide) ⟨_, rfl, rfl⟩ (by first | assumption | (simp only [jM.tag_sI, jM.tag_sL, jM.tag_sR, jM.tag_fI, jM.tag_fL, jM.tag_fR]; assumption) | (simp [jM.tag_nw, jM.tag_sI, jM.tag_sL, jM.tag_sR, jM.tag_fI, jM.tag_fL, jM.tag_fR, *]; done)) (cb_len B0) rfl rfl (Nat.le_of_ble_eq_true rfl) (by first | omega | (exact R.r _ _) | (simp only [jM.len_sI, jM.len_sL, jM.len_sR, jM.len_fI, jM.len_fL, jM.len_fR]; omega) | (simp [jM.len_nw, jM.len_sI, jM.len_sL, jM.len_sR, jM.len_fI, jM.len_fL, jM.len_fR, *]; omega)) (by first | omega | (exact R.r _ _) | (simp only [jM.len_sI, jM.len_sL, jM.len_sR, jM.len_fI, jM.len_fL, jM.len_fR]; omega) | (simp [jM.len_nw, jM.len_sI, jM.len_sL, jM.len_sR, jM.len_fI, jM.len_fL, jM.len_fR, *]; omega)) (by first | omega | (exact R.r _ _) | (simp only [jM.len_sI, jM.len_sL, jM.len_sR, jM.len_fI, jM.len_fL, jM.len_fR]; omega) | (simp [jM.len_nw, jM.len_sI, jM.len_sL, jM.len_sR, jM.len_fI, jM.len_fL, jM.len_fR, *]; omega)) rfl rfl ?_ ?_
    · exact fun _ _ z => z.elim
    rintro _ h ⟨rfl, rfl⟩
    refine J.icmp_le (tgt := 32) (pc' := 22) rfl rfl rfl (by first | omega | (exact R.r _ _) | (simp only [jM.len_sI, jM.len_sL, jM.len_sR, jM.len_fI, jM.len_fL, jM.len_fR]; omega) | (simp [jM.len_nw, jM.len_sI, jM.len_sL, jM.len_sR, jM.len_fI, jM.len_fL, jM.len_fR, *]; omega)) (by first | omega | (exact R.r _ _) | (simp only [jM.len_sI, jM.len_sL, jM.len_sR, jM.len_fI, jM.len_fL, jM.len_fR]; omega) | (simp [jM.len_nw, jM.len_sI, jM.len_sL, jM.len_sR, jM.len_fI, jM.len_fL, jM.len_fR, *]; omega)) (fun c2 => ?_) (fun c2 => ?_)
    · refine J.iload_n (pc' := 33) rfl rfl rfl ?_
      refine J.if_lt (tgt := 43) (pc' := 36) rfl rfl rfl (by first | omega | (exact R.r _ _) | (simp only [jM.len_sI, jM.len_sL, jM.len_sR, jM.len_fI, jM.len_fL, jM.len_fR]; omega) | (simp [jM.len_nw, jM.len_sI, jM.len_sL, jM.len_sR, jM.len_fI, jM.len_fL, jM.len_fR, *]; omega)) (fun c3 => ?_) (fun c3 => ?_)
      · refine J.throwL (text := "no such day") rfl rfl rfl rfl rfl jThr_IAE (List.mem_of_getElem? (i := 582) (by decide +kernel)) (List.mem_of_getElem? (i := 620) (by decide +kernel)) rfl (by first | omega | (exact R.r _ _) | (simp only [jM.len_sI, jM.len_sL, jM.len_sR, jM.len_fI, jM.len_fL, jM.len_fR]; omega) | (simp [jM.len_nw, jM.len_sI, jM.len_sL, jM.len_sR, jM.len_fI, jM.len_fL, jM.len_fR, *]; omega)) (Nat.le_of_ble_eq_true rfl) (by first | omega | (exact R.r _ _) | (simp only [jM.len_sI, jM.len_sL, jM.len_sR, jM.len_fI, jM.len_fL, jM.len_fR]; omega) | (simp [jM.len_nw, jM.len_sI, jM.len_sL, jM.len_sR, jM.len_fI, jM.len_fL, jM.len_fR, *]; omega)) (by first | omega | (exact R.r _ _) | (simp only [jM.len_sI, jM.len_sL, jM.len_sR, jM.len_fI, jM.len_fL, jM.len_fR]; omega) | (simp [jM.len_nw, jM.len_sI, jM.len_sL, jM.len_sR, jM.len_fI, jM.len_fL, jM.len_fR, *]; omega)) ?_
        exact ⟨rfl, Or.inr (Or.inl ⟨cs1, by omega, rfl⟩)⟩
      · refine J.iload_n (pc' := 37) rfl rfl rfl ?_
        refine J.sipush (pc' := 40) rfl rfl (by decide) ?_
        refine J.icmp_le (tgt := 53) (pc' := 43) rfl rfl rfl (by first | omega | (exact R.r _ _) | (simp only [jM.len_sI, jM.len_sL, jM.len_sR, jM.len_fI, jM.len_fL, jM.len_fR]; omega) | (simp [jM.len_nw, jM.len_sI, jM.len_sL, jM.len_sR, jM.len_fI, jM.len_fL, jM.len_fR, *]; omega)) (by first | omega | (exact R.r _ _) | (simp only [jM.len_sI, jM.len_sL, jM.len_sR, jM.len_fI, jM.len_fL, jM.len_fR]; omega) | (simp [jM.len_nw, jM.len_sI, jM.len_sL, jM.len_sR, jM.len_fI, jM.len_fL, jM.len_fR, *]; omega)) (fun c4 => ?_) (fun c4 => ?_)
        · first | refine J.aload_n (pc' := 54) rfl rfl rfl ?_ | refine J.aload_nN (pc' := 54) rfl rfl rfl ?_
          first | refine J.getR (pc' := 57) rfl fl_X11_19 rfl (by first | assumption | (simp only [jM.tag_sI, jM.tag_sL, jM.tag_sR, jM.tag_fI, jM.tag_fL, jM.tag_fR]; assumption) | (simp [jM.tag_nw, jM.tag_sI, jM.tag_sL, jM.tag_sR, jM.tag_fI, jM.tag_fL, jM.tag_fR, *]; done)) (by first | assumption | (simp only [jM.R_sI, jM.R_sL, jM.R_fI, jM.R_fL]; assumption) | (simp [jM.R_nw, jM.R_sR, jM.R_fR, jM.R_sI, jM.R_sL, jM.R_fI, jM.R_fL, *]; done)) rfl ?_ | refine J.getRN (pc' := 57) rfl fl_X11_19 rfl (by first | assumption | (simp only [jM.tag_sI, jM.tag_sL, jM.tag_sR, jM.tag_fI, jM.tag_fL, jM.tag_fR]; assumption) | (simp [jM.tag_nw, jM.tag_sI, jM.tag_sL, jM.tag_sR, jM.tag_fI, jM.tag_fL, jM.tag_fR, *]; done)) (by first | assumption | (simp only [jM.R_sI, jM.R_sL, jM.R_fI, jM.R_fL]; assumption) | (simp [jM.R_nw, jM.R_sR, jM.R_fR, jM.R_sI, jM.R_sL, jM.R_fI, jM.R_fL, *]; done)) rfl ?_
          refine J.callV (pc' := 60) (t := 3) rfl MJx4a65c_size_8abf5 ml_X11_60 iv_Jx4a65c_size_8abf5 (by decide) ⟨_, rfl, rfl⟩ (by first | assumption | (simp only [jM.tag_sI, jM.tag_sL, jM.tag_sR, jM.tag_fI, jM.tag_fL, jM.tag_fR]; assumption) | (simp [jM.tag_nw, jM.tag_sI, jM.tag_sL, jM.tag_sR, jM.tag_fI, jM.tag_fL, jM.tag_fR, *]; done)) L2.size rfl rfl (Nat.le_of_ble_eq_true rfl) (by first | omega | (exact R.r _ _) | (simp only [jM.len_sI, jM.len_sL, jM.len_sR, jM.len_fI, jM.len_fL, jM.len_fR]; omega) | (simp [jM.len_nw, jM.len_sI, jM.len_sL, jM.len_sR, jM.len_fI, jM.len_fL, jM.len_fR, *]; omega)) (by first | omega | (exact R.r _ _) | (simp only [jM.len_sI, jM.len_sL, jM.len_sR, jM.len_fI, jM.len_fL, jM.len_fR]; omega) | (simp [jM.len_nw, jM.len_sI, jM.len_sL, jM.len_sR, jM.len_fI, jM.len_fL, jM.len_fR, *]; omega)) (by first | omega | (exact R.r _ _) | (simp only [jM.len_sI, jM.len_sL, jM.len_sR, jM.len_fI, jM.len_fL, jM.len_fR]; omega) | (simp [jM.len_nw, jM.len_sI, jM.len_sL, jM.len_sR, jM.len_fI, jM.len_fL, jM.len_fR, *]; omega)) rfl rfl ?_ ?_
          · exact fun _ _ z => z.elim
          rintro _ h ⟨rfl, rfl⟩
          refine J.bipush (pc' := 62) rfl rfl (by decide) ?_
          refine J.icmp_lt (tgt := 75) (pc' := 65) rfl rfl rfl (by first | omega | (exact R.r _ _) | (simp only [jM.len_sI, jM.len_sL, jM.len_sR, jM.len_fI, jM.len_fL, jM.len_fR]; omega) | (simp [jM.len_nw, jM.len_sI, jM.len_sL, jM.len_sR, jM.len_fI, jM.len_fL, jM.len_fR, *]; omega)) (by first | omega | (exact R.r _ _) | (simp only [jM.len_sI, jM.len_sL, jM.len_sR, jM.len_fI, jM.len_fL, jM.len_fR]; omega) | (simp [jM.len_nw, jM.len_sI, jM.len_sL, jM.len_sR, jM.len_fI, jM.len_fL, jM.len_fR, *]; omega)) (fun c5 => ?_) (fun c5 => ?_)
          · have hG : ctG V n sel dy := ⟨cs1, by omega, by omega⟩
            refine J.new (pc' := 78) (t := 5) (N := 5) (n := 5) rfl ⟨by decide, by decide, _, rfl, rfl, List.mem_of_getElem? (i := 637) (by decide +kernel), List.mem_of_getElem? (i := 638) (by decide +kernel), List.mem_of_getElem? (i := 91) (by decide +kernel)⟩ (by first | omega | (exact R.r _ _) | (simp only [jM.len_sI, jM.len_sL, jM.len_sR, jM.len_fI, jM.len_fL, jM.len_fR]; omega) | (simp [jM.len_nw, jM.len_sI, jM.len_sL, jM.len_sR, jM.len_fI, jM.len_fL, jM.len_fR, *]; omega)) (by first | omega | (exact R.r _ _) | (simp only [jM.len_sI, jM.len_sL, jM.len_sR, jM.len_fI, jM.len_fL, jM.len_fR]; omega) | (simp [jM.len_nw, jM.len_sI, jM.len_sL, jM.len_sR, jM.len_fI, jM.len_fL, jM.len_fR, *]; omega)) rfl (fun a af ab => ?_)
            have f1 : Fr h (h.nw a 5 5) (fun _ => False) := Fr.stN Fr.rf af
            have ta1 : (h.nw a 5 5).tag a = 5 := by rw [jM.tag_nw, if_pos rfl]
            have L1 := L2.keptW f1 id (Or.inl id)
            have tx1 := f1.tag x0 (by decide)
            have rx1 := f1.R x0 (by decide) id 2
            rw [x3] at rx1
            have tl1 := L1.1
            have K1 : isK γ (h.nw a 5 5) := a11.kept f1 (fun _ _ _ z => z)
            generalize h.nw a 5 5 = k1 at f1 ta1 L1 tx1 rx1 tl1 K1 ⊢
            refine J.dup (pc' := 79) rfl rfl rfl ?_
            first | refine J.aload_n (pc' := 80) rfl rfl rfl ?_ | refine J.aload_nN (pc' := 80) rfl rfl rfl ?_
            first | refine J.getR (pc' := 83) rfl fl_X11_19 rfl (by first | assumption | (simp only [jM.tag_sI, jM.tag_sL, jM.tag_sR, jM.tag_fI, jM.tag_fL, jM.tag_fR]; assumption) | (simp [jM.tag_nw, jM.tag_sI, jM.tag_sL, jM.tag_sR, jM.tag_fI, jM.tag_fL, jM.tag_fR, *]; done)) (by first | assumption | (simp only [jM.R_sI, jM.R_sL, jM.R_fI, jM.R_fL]; assumption) | (simp [jM.R_nw, jM.R_sR, jM.R_fR, jM.R_sI, jM.R_sL, jM.R_fI, jM.R_fL, *]; done)) rfl ?_ | refine J.getRN (pc' := 83) rfl fl_X11_19 rfl (by first | assumption | (simp only [jM.tag_sI, jM.tag_sL, jM.tag_sR, jM.tag_fI, jM.tag_fL, jM.tag_fR]; assumption) | (simp [jM.tag_nw, jM.tag_sI, jM.tag_sL, jM.tag_sR, jM.tag_fI, jM.tag_fL, jM.tag_fR, *]; done)) (by first | assumption | (simp only [jM.R_sI, jM.R_sL, jM.R_fI, jM.R_fL]; assumption) | (simp [jM.R_nw, jM.R_sR, jM.R_fR, jM.R_sI, jM.R_sL, jM.R_fI, jM.R_fL, *]; done)) rfl ?_
            refine J.callV (pc' := 86) (t := 3) rfl MJx4a65c_size_8abf5 ml_X11_60 iv_Jx4a65c_size_8abf5 (by decide) ⟨_, rfl, rfl⟩ (by first | assumption | (simp only [jM.tag_sI, jM.tag_sL, jM.tag_sR, jM.tag_fI, jM.tag_fL, jM.tag_fR]; assumption) | (simp [jM.tag_nw, jM.tag_sI, jM.tag_sL, jM.tag_sR, jM.tag_fI, jM.tag_fL, jM.tag_fR, *]; done)) L1.size rfl rfl (Nat.le_of_ble_eq_true rfl) (by first | omega | (exact R.r _ _) | (simp only [jM.len_sI, jM.len_sL, jM.len_sR, jM.len_fI, jM.len_fL, jM.len_fR]; omega) | (simp [jM.len_nw, jM.len_sI, jM.len_sL, jM.len_sR, jM.len_fI, jM.len_fL, jM.len_fR, *]; omega)) (by first | omega | (exact R.r _ _) | (simp only [jM.len_sI, jM.len_sL, jM.len_sR, jM.len_fI, jM.len_fL, jM.len_fR]; omega) | (simp [jM.len_nw, jM.len_sI, jM.len_sL, jM.len_sR, jM.len_fI, jM.len_fL, jM.len_fR, *]; omega)) (by first | omega | (exact R.r _ _) | (simp only [jM.len_sI, jM.len_sL, jM.len_sR, jM.len_fI, jM.len_fL, jM.len_fR]; omega) | (simp [jM.len_nw, jM.len_sI, jM.len_sL, jM.len_sR, jM.len_fI, jM.len_fL, jM.len_fR, *]; omega)) rfl rfl ?_ ?_
            · exact fun _ _ z => z.elim
            rintro _ k1 ⟨rfl, rfl⟩
            first | refine J.aload (pc' := 88) rfl rfl rfl ?_ | refine J.aloadN (pc' := 88) rfl rfl rfl ?_
            refine J.iload_n (pc' := 89) rfl rfl rfl ?_
            refine J.callI (pc' := 92) rfl MX1_init ml_X11_120 iv_X1_init ⟨rfl, rfl⟩ (cx_Contract ta1 K1.2.2.2) rfl rfl (Nat.le_of_ble_eq_true rfl) (by first | omega | (exact R.r _ _) | (simp only [jM.len_sI, jM.len_sL, jM.len_sR, jM.len_fI, jM.len_fL, jM.len_fR]; omega) | (simp [jM.len_nw, jM.len_sI, jM.len_sL, jM.len_sR, jM.len_fI, jM.len_fL, jM.len_fR, *]; omega)) (by first | omega | (exact R.r _ _) | (simp only [jM.len_sI, jM.len_sL, jM.len_sR, jM.len_fI, jM.len_fL, jM.len_fR]; omega) | (simp [jM.len_nw, jM.len_sI, jM.len_sL, jM.len_sR, jM.len_fI, jM.len_fL, jM.len_fR, *]; omega)) (by first | omega | (exact R.r _ _) | (simp only [jM.len_sI, jM.len_sL, jM.len_sR, jM.len_fI, jM.len_fL, jM.len_fR]; omega) | (simp [jM.len_nw, jM.len_sI, jM.len_sL, jM.len_sR, jM.len_fI, jM.len_fL, jM.len_fR, *]; omega)) rfl ?_
            rintro _ k2 ⟨rfl, g, gf, g1, g2, g3, g4, g5, g6, f2, m2⟩
            have F2 : Fr h k2 (fun _ => False) := f1.trans f2 (fun b hb z => by
              rcases z with z | z
              · exact z
              · rw [z] at hb; exact hb af)
            have gf0 := f1.free gf
            have ta2 := f2.tag ta1 (by decide)
            refine J.own g 0 (some (1000 + cs.length)) ?_
            have F3 : Fr h (k2.sR 0 g 0 (some (1000 + cs.length))) (fun _ => False) := Fr.stO F2 gf0
            have tg := g1.1
            have hag : ¬ a = g := fun z => by rw [z] at ta2; omega
            have C3 : CFx γ (k2.sR 0 g 0 (some (1000 + cs.length))) a g sz (V 16 11) dy (1000 + cs.length) := by
              obtain ⟨d1, d2, d3, d4, d5, d6, d7, d8, d9⟩ := g1
              refine ⟨ta2, ?_, ⟨d1, ?_, d3, d4, d5, d6, d7, fun i hi => ?_, d9⟩, g3, ?_, ?_, g6, ?_⟩
              · rw [jM.R_sR, if_neg (by omega)]; exact g2
              · rw [jM.R_sR, if_neg (by omega)]; exact d2
              · exact absurd hi (Nat.not_lt_zero _)
              · show k2.I 5 a 0 = _
                rw [g4]; exact n2
              · rw [jM.R_sR, if_neg (by omega)]; exact g5
              · show (k2.sR 0 g 0 (some (1000 + cs.length))).R 0 g 0 = _
                rw [jM.R_sR, if_pos ⟨rfl, rfl, rfl⟩]
            generalize k2.sR 0 g 0 (some (1000 + cs.length)) = k3 at F3 C3 ⊢
            first | refine J.astore (pc' := 94) rfl rfl (by decide) ?_ | refine J.astoreN (pc' := 94) rfl rfl (by decide) ?_
            exact cf_ct94 (a := a) (g := g) (sz := sz) (by omega) (by omega) I hR hG as C3 af gf0 F3 _ ⟨rfl, rfl, rfl, trivial⟩
          · refine J.throwL (text := "there are 20 contracts") rfl rfl rfl rfl rfl jThr_ISE (List.mem_of_getElem? (i := 621) (by decide +kernel)) (List.mem_of_getElem? (i := 630) (by decide +kernel)) rfl (by first | omega | (exact R.r _ _) | (simp only [jM.len_sI, jM.len_sL, jM.len_sR, jM.len_fI, jM.len_fL, jM.len_fR]; omega) | (simp [jM.len_nw, jM.len_sI, jM.len_sL, jM.len_sR, jM.len_fI, jM.len_fL, jM.len_fR, *]; omega)) (Nat.le_of_ble_eq_true rfl) (by first | omega | (exact R.r _ _) | (simp only [jM.len_sI, jM.len_sL, jM.len_sR, jM.len_fI, jM.len_fL, jM.len_fR]; omega) | (simp [jM.len_nw, jM.len_sI, jM.len_sL, jM.len_sR, jM.len_fI, jM.len_fL, jM.len_fR, *]; omega)) (by first | omega | (exact R.r _ _) | (simp only [jM.len_sI, jM.len_sL, jM.len_sR, jM.len_fI, jM.len_fL, jM.len_fR]; omega) | (simp [jM.len_nw, jM.len_sI, jM.len_sL, jM.len_sR, jM.len_fI, jM.len_fL, jM.len_fR, *]; omega)) ?_
            exact ⟨rfl, Or.inr (Or.inr ⟨cs1, by omega, by omega, rfl⟩)⟩
        · refine J.throwL (text := "no such day") rfl rfl rfl rfl rfl jThr_IAE (List.mem_of_getElem? (i := 582) (by decide +kernel)) (List.mem_of_getElem? (i := 620) (by decide +kernel)) rfl (by first | omega | (exact R.r _ _) | (simp only [jM.len_sI, jM.len_sL, jM.len_sR, jM.len_fI, jM.len_fL, jM.len_fR]; omega) | (simp [jM.len_nw, jM.len_sI, jM.len_sL, jM.len_sR, jM.len_fI, jM.len_fL, jM.len_fR, *]; omega)) (Nat.le_of_ble_eq_true rfl) (by first | omega | (exact R.r _ _) | (simp only [jM.len_sI, jM.len_sL, jM.len_sR, jM.len_fI, jM.len_fL, jM.len_fR]; omega) | (simp [jM.len_nw, jM.len_sI, jM.len_sL, jM.len_sR, jM.len_fI, jM.len_fL, jM.len_fR, *]; omega)) (by first | omega | (exact R.r _ _) | (simp only [jM.len_sI, jM.len_sL, jM.len_sR, jM.len_fI, jM.len_fL, jM.len_fR]; omega) | (simp [jM.len_nw, jM.len_sI, jM.len_sL, jM.len_sR, jM.len_fI, jM.len_fL, jM.len_fR, *]; omega)) ?_
          exact ⟨rfl, Or.inr (Or.inl ⟨cs1, by omega, rfl⟩)⟩
    · refine J.throwL (text := "more or fewer bytes than the tape has") rfl rfl rfl rfl rfl jThr_IAE (List.mem_of_getElem? (i := 582) (by decide +kernel)) (List.mem_of_getElem? (i := 619) (by decide +kernel)) rfl (by first | omega | (exact R.r _ _) | (simp only [jM.len_sI, jM.len_sL, jM.len_sR, jM.len_fI, jM.len_fL, jM.len_fR]; omega) | (simp [jM.len_nw, jM.len_sI, jM.len_sL, jM.len_sR, jM.len_fI, jM.len_fL, jM.len_fR, *]; omega)) (Nat.le_of_ble_eq_true rfl) (by first | omega | (exact R.r _ _) | (simp only [jM.len_sI, jM.len_sL, jM.len_sR, jM.len_fI, jM.len_fL, jM.len_fR]; omega) | (simp [jM.len_nw, jM.len_sI, jM.len_sL, jM.len_sR, jM.len_fI, jM.len_fL, jM.len_fR, *]; omega)) (by first | omega | (exact R.r _ _) | (simp only [jM.len_sI, jM.len_sL, jM.len_sR, jM.len_fI, jM.len_fL, jM.len_fR]; omega) | (simp [jM.len_nw, jM.len_sI, jM.len_sL, jM.len_sR, jM.len_fI, jM.len_fL, jM.len_fR, *]; omega)) ?_
      exact ⟨rfl, Or.inr (Or.inl ⟨cs1, by omega, rfl⟩)⟩
end FI

