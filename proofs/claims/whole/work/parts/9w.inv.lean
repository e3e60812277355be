section INV
variable {V V' W U : VV}
theorem Sm_1 {F F' : Int → Int} {f : Int} (hf : 0 ≤ f) (h : ∀ i, i ≠ f → F' i = F i) : ∀ n : Nat, Sm F' n = Sm F n + (if f < n then F' f - F f else 0) := fun n => by
  induction n with
  | zero => rw [if_neg (by omega)]; simp [Sm]
  | succ n ih =>
    rw [Sm, Sm, ih]
    by_cases c : (n : Int) = f
    · have c1 : ¬ f < (n : Int) := by omega
      have c2 : f < ((n + 1 : Nat) : Int) := by omega
      rw [if_neg c1, if_pos c2, c]
      omega
    · rw [h n c]
      by_cases d : f < (n : Int)
      · have c2 : f < ((n + 1 : Nat) : Int) := by omega
        rw [if_pos d, if_pos c2]
        omega
      · have c2 : ¬ f < ((n + 1 : Nat) : Int) := by omega
        rw [if_neg d, if_neg c2]
        omega
theorem tons_cg (e1 : V' 138 = V 138) (e2 : V' 139 = V 139) : tonsOf V' = tonsOf V := by
  funext g
  unfold tonsOf
  rw [e1, e2]
theorem unS.cg (u : unS V) (e1 : V' 108 = V 108) (e2 : V' 109 = V 109) (e3 : V' 16 2 = V 16 2) : unS V' := by
  unfold unS
  rw [e1, e2, e3]
  exact u
theorem Inv.cgA (I : Inv V) (R : isR V') (e : ∀ t, (138 ≤ t ∧ t ≤ 140) ∨ (153 ≤ t ∧ t ≤ 155) → V' t = V t) (f1 : V' 16 26 = V 16 26) (f2 : V' 16 52 = V 16 52) (f3 : V' 16 10 % 20 = 0) (u : unS V') : Inv V' := by
  obtain ⟨a1, a2, a3, a4, a5, a6, a7, a8, a9⟩ := I
  have e138 := e 138 (by omega)
  have e139 := e 139 (by omega)
  have e140 := e 140 (by omega)
  have e153 := e 153 (by omega)
  have e154 := e 154 (by omega)
  have e155 := e 155 (by omega)
  refine ⟨R, ?_, ?_, ?_, ?_, ?_, f3, u, ?_⟩
  · unfold isT; rw [e138, e139]; exact a2
  · unfold isPt; rw [f2, e153, e154]; exact a3
  · unfold layAll; rw [e138]; exact a4
  · unfold refL; rw [e138, e140, f1]; exact a5
  · unfold refP; rw [f2, e153, e155, f1]; exact a6
  · unfold tnB; rw [tons_cg e138 e139, f1]; exact a9
theorem Inv.u (I : Inv V) : unS V := I.2.2.2.2.2.2.2.1
theorem Inv.d (I : Inv V) : V 16 10 % 20 = 0 := I.2.2.2.2.2.2.1
theorem Inv.u16 {i x : Int} (I : Inv V) (hi : i ≠ 26 ∧ i ≠ 52 ∧ i ≠ 10 ∧ i ≠ 2) (hx : jLo 16 i ≤ x ∧ x ≤ jHi 16 i) : Inv (jU V 16 i x) :=
  I.cgA (I.1.up (fun _ => hx)) (fun t ht => jU_f _ (by omega)) (jU_s _ (by omega)) (jU_s _ (by omega)) (by rw [jU_s _ (by omega)]; exact I.d) (I.u.cg (jU_f _ (by decide)) (jU_f _ (by decide)) (jU_s _ (by omega)))
theorem Inv.uT {t : Nat} {i x : Int} (I : Inv V) (ht : t ≠ 16 ∧ (t < 138 ∨ 140 < t) ∧ (t < 153 ∨ 155 < t) ∧ t ≠ 108 ∧ t ≠ 109) (hx : jMl t = false → jLo t i ≤ x ∧ x ≤ jHi t i) : Inv (jU V t i x) :=
  I.cgA (I.1.up hx) (fun t' ht' => jU_f _ (by omega)) (jU_o _ (by omega)) (jU_o _ (by omega)) (by rw [jU_o _ (by omega)]; exact I.d) (I.u.cg (jU_f _ (by omega)) (jU_f _ (by omega)) (jU_o _ (by omega)))
theorem Inv.u109 {s x : Int} (I : Inv V) (hs : s < V 16 2) : Inv (jU V 109 s x) :=
  I.cgA (I.1.up (fun h => absurd h (by decide))) (fun t' ht' => jU_f _ (by omega)) (jU_o _ (by omega)) (jU_o _ (by omega)) (by rw [jU_o _ (by omega)]; exact I.d) (fun s' h' => by
    rw [jU_o _ (by decide)] at h'
    rw [jU_i _ (by omega), jU_f _ (by decide)]
    exact I.u s' h')
theorem Inv.er {c : Int} (I : Inv V) (hc : 0 ≤ c ∧ c ≤ 400) : Inv (jU V 16 0 c) := I.u16 (by omega) hc
theorem isR.ofO (R : isR V) (h : ∀ t i, jMl t = false → V' t i = V t i ∨ jLo t i ≤ V' t i ∧ V' t i ≤ jHi t i) : isR V' := fun t i ht => by
  rcases h t i ht with z | z
  · rw [z]; exact R t i ht
  · exact z
theorem inv_kind (I : Inv V) : Inv (sp_kind V).2 := by
  have f := I.1.f
  unfold sp_kind
  split
  · exact I
  · rename_i q
    have I1 : Inv (kdV V 5) := by
      refine I.cgA (I.1.ofO fun t i _ => ?_) (fun t ht => kdV_o (by omega) (by omega)) (by rw [kdV_o (by decide) (by decide)]) (by rw [kdV_o (by decide) (by decide)]) (by rw [kdV_o (by decide) (by decide)]; exact I.d) (I.u.cg (kdV_o (by decide) (by decide)) (kdV_o (by decide) (by decide)) (by rw [kdV_o (by decide) (by decide)]))
      unfold kdV
      split
      · rename_i z
        right
        rcases z.1 with y | y
        · subst y; rw [if_pos rfl]; show (0 : Int) ≤ 0 ∧ (0 : Int) ≤ 10000; omega
        · subst y; rw [if_neg (by decide)]; show (0 : Int) ≤ 10000 ∧ (10000 : Int) ≤ 10000; omega
      · exact Or.inl rfl
    exact I1.u16 (by decide) (by show (0 : Int) ≤ V 16 1 + 1 ∧ V 16 1 + 1 ≤ 10; omega)
theorem inv_seller (I : Inv V) : Inv (sp_seller V).2 := by
  have f := I.1.f
  unfold sp_seller
  split
  · exact I
  · show Inv (jU V 16 2 (V 16 2 + 1))
    exact I.cgA (I.1.up (fun _ => by show (0 : Int) ≤ V 16 2 + 1 ∧ V 16 2 + 1 ≤ 8; omega)) (fun t' ht' => jU_f _ (by omega)) (jU_s _ (by decide)) (jU_s _ (by decide)) (by rw [jU_s _ (by decide)]; exact I.d) (fun s' h' => by
      rw [jU_same] at h'
      rw [jU_f _ (by decide), jU_f _ (by decide)]
      exact I.u s' (by omega))
theorem inv_span {k m l g : Int} (I : Inv V) : Inv (sp_span V k m l g).2 := by
  unfold sp_span
  split
  · split
    · exact (I.uT (by decide) (fun _ => by show (0 : Int) ≤ l ∧ l ≤ 10000; omega)).uT (by decide) (fun _ => by show (0 : Int) ≤ g ∧ g ≤ 10000; omega)
    · exact I.er (by omega)
  · exact I.er (by omega)
theorem inv_asked {m l g : Int} (I : Inv V) : Inv (sp_asked V m l g).2 := by
  unfold sp_asked
  split
  · exact (I.uT (by decide) (fun _ => by show (0 : Int) ≤ l ∧ l ≤ 10000; omega)).uT (by decide) (fun _ => by show (0 : Int) ≤ g ∧ g ≤ 10000; omega)
  · exact I.er (by omega)
theorem inv_day {d : Int} (I : Inv V) : Inv (sp_day V d).2 := by
  have f := I.1.f
  unfold sp_day
  split
  · exact I.u16 (by decide) (by show (0 : Int) ≤ V 16 3 + d ∧ V 16 3 + d ≤ 10000; omega)
  · exact I.er (by omega)
theorem inv_feed {a b c d e : Int} (I : Inv V) : Inv (sp_feed V a b c d e).2 := by
  have f := I.1.f
  unfold sp_feed
  split
  · have o : ∀ t, t ≠ 16 → t ≠ 116 → fdV V a b c d e 20 t = V t := fun t h1 h2 => funext fun i => by
      unfold fdV
      rw [if_neg (fun z => h2 z.1), if_neg (fun z => h1 z.1)]
    have s : ∀ i, i ≠ 10 → fdV V a b c d e 20 16 i = V 16 i := fun i hi => by
      unfold fdV
      rw [if_neg (fun z => absurd z.1 (by decide)), if_neg (fun z => hi z.2)]
    have s10 : fdV V a b c d e 20 16 10 = V 16 10 + 20 := by
      unfold fdV
      rw [if_neg (fun z => absurd z.1 (by decide)), if_pos ⟨rfl, rfl⟩]
    show Inv (fdV V a b c d e 20)
    refine I.cgA (I.1.ofO fun t i _ => ?_) (fun t ht => o t (by omega) (by omega)) (s _ (by decide)) (s _ (by decide)) (by rw [s10]; have := I.d; omega) (I.u.cg (o _ (by decide) (by decide)) (o _ (by decide) (by decide)) (s _ (by decide)))
    by_cases c1 : t = 116 ∧ V 16 10 ≤ i ∧ i < V 16 10 + 20
    · right
      obtain ⟨c0, c2⟩ := c1
      subst c0
      unfold fdV
      rw [if_pos ⟨rfl, c2⟩]
      unfold fdB
      generalize shB _ _ = z
      show (0 : Int) ≤ z % 256 ∧ z % 256 ≤ 10000
      omega
    · by_cases c3 : t = 16 ∧ i = 10
      · right
        rw [c3.1, c3.2, s10]
        show (0 : Int) ≤ _ ∧ _ ≤ 400
        omega
      · left
        unfold fdV
        rw [if_neg c1, if_neg c3]
  · exact I
theorem Inv.fg {g p : Int} (I : Inv V) (hg : -1 ≤ g ∧ g ≤ 12) (hp : 0 ≤ p ∧ p ≤ 99999) : Inv (fgV V g p) := (I.u16 (by decide) hg).u16 (by decide) hp
theorem Inv.put {g n l c : Int} (I : Inv U) (hg : 0 ≤ g ∧ g < 6) (hn : 1 ≤ n ∧ n ≤ 50) (hl : l = U 16 26) (h26 : U 16 26 < 100) (hla : layAll U < 40) (hc : 0 ≤ c ∧ c ≤ 99999) : Inv (putV (jU U 16 26 (l + 1)) g n l c (-1)) := by
  obtain ⟨a1, a2, a3, a4, a5, a6, a7, a8, a9⟩ := I
  have f := a1.f
  have hgg := lay1 a1 hg
  have R1 : isR (jU U 16 26 (l + 1)) := a1.up (fun _ => by show (0 : Int) ≤ l + 1 ∧ l + 1 ≤ 100; omega)
  have e : ∀ t, t ≠ 16 → jU U 16 26 (l + 1) t = U t := fun t ht => jU_f _ ht
  have u26 : jU U 16 26 (l + 1) 16 26 = l + 1 := jU_same _ _ _ _
  have r138 : ∀ i, 0 ≤ U 138 i ∧ U 138 i ≤ 40 := fun i => a1 138 i rfl
  have p138 : ∀ i, putV (jU U 16 26 (l + 1)) g n l c (-1) 138 i = if i = g then U 138 g + 1 else U 138 i := fun i => by rw [putV_many, e 138 (by decide)]
  have p139 : ∀ i, putV (jU U 16 26 (l + 1)) g n l c (-1) 139 i = if i = 41 * g + U 138 g then n else U 139 i := fun i => by rw [putV_139, e 138 (by decide), e 139 (by decide)]
  have p140 : ∀ i, putV (jU U 16 26 (l + 1)) g n l c (-1) 140 i = if i = 41 * g + U 138 g then l else U 140 i := fun i => by rw [putV_140, e 138 (by decide), e 140 (by decide)]
  have po : ∀ t i, t ≠ 16 → t < 138 ∨ 143 < t → putV (jU U 16 26 (l + 1)) g n l c (-1) t i = U t i := fun t i h1 h2 => by rw [putV_o h2, e t h1]
  have ps : ∀ i, i ≠ 26 → putV (jU U 16 26 (l + 1)) g n l c (-1) 16 i = U 16 i := fun i hi => by rw [putV_o (by omega), jU_s _ hi]
  have p26 : putV (jU U 16 26 (l + 1)) g n l c (-1) 16 26 = l + 1 := by rw [putV_o (by omega), u26]
  have hp := R1.put (g := g) (n := n) (l := l) (c := c) (like := -1) (by omega) (by omega) hc (by rw [e 138 (by decide)]; omega)
  generalize putV (jU U 16 26 (l + 1)) g n l c (-1) = P at *
  refine ⟨hp, fun g' j g1 g2 j1 j2 => ?_, fun i k i1 i2 k1 k2 => ?_, ?_, fun g' j g1 g2 j1 j2 => ?_, fun i k i1 i2 k1 k2 => ?_, by rw [ps 10 (by decide)]; exact a7, fun s hs => ?_, ?_⟩
  · rw [p139]
    split
    · omega
    · rename_i q
      rw [p138] at j2
      have := r138 g'
      have := r138 g
      by_cases z : g' = g
      · subst z; rw [if_pos rfl] at j2; exact a2 g' j g1 g2 j1 (by omega)
      · rw [if_neg z] at j2; exact a2 g' j g1 g2 j1 j2
  · rw [po 154 _ (by decide) (by decide)]
    rw [ps 52 (by decide)] at i2
    rw [po 153 _ (by decide) (by decide)] at k2
    exact a3 i k i1 i2 k1 k2
  · have h1 := Sm_1 (F := fun h => U 138 h) (F' := fun h => P 138 h) hg.1 (fun i hi => by show P 138 i = U 138 i; rw [p138, if_neg hi]) 6
    (try dsimp only at h1)
    rw [if_pos (show g < ((6 : Nat) : Int) by omega), p138 g, if_pos rfl] at h1
    unfold layAll at hla ⊢
    omega
  · rw [p140, p26]
    split
    · omega
    · rename_i q
      rw [p138] at j2
      have := r138 g'
      have := r138 g
      have : U 140 (41 * g' + j) < U 16 26 := by
        by_cases z : g' = g
        · subst z; rw [if_pos rfl] at j2; exact a5 g' j g1 g2 j1 (by omega)
        · rw [if_neg z] at j2; exact a5 g' j g1 g2 j1 j2
      omega
  · rw [po 155 _ (by decide) (by decide), p26]
    rw [ps 52 (by decide)] at i2
    rw [po 153 _ (by decide) (by decide)] at k2
    have := a6 i k i1 i2 k1 k2
    omega
  · rw [ps 2 (by decide)] at hs
    refine ⟨by rw [po 109 _ (by decide) (by decide)]; exact (a8 s hs).1, fun k m k1 k2 m1 m2 => by rw [po 108 _ (by decide) (by decide)]; exact (a8 s hs).2 k m k1 k2 m1 m2⟩
  · have tg : ∀ i, 0 ≤ i → i < 6 → i ≠ g → tonsOf P i = tonsOf U i := fun i i0 i1 hi => by
      have := r138 i
      have := r138 g
      unfold tonsOf
      rw [p138, if_neg hi]
      refine Sm_cg (fun j hj => ?_)
      (try dsimp only)
      rw [p139, if_neg (by omega)]
    have tG : tonsOf P g = tonsOf U g + n := by
      have := r138 g
      unfold tonsOf
      rw [p138, if_pos rfl, show (U 138 g + 1).toNat = (U 138 g).toNat + 1 by omega, Sm]
      have e1 : Sm (fun k => P 139 (41 * g + k)) (U 138 g).toNat = Sm (fun k => U 139 (41 * g + k)) (U 138 g).toNat := Sm_cg (fun j hj => by
        (try dsimp only)
        rw [p139, if_neg (by omega)])
      rw [e1]
      (try dsimp only)
      rw [p139, if_pos (by omega)]
    have h1 := Sm_1 (F := fun h => tonsOf U h) (F' := fun h => if h = g then tonsOf P g else tonsOf U h) hg.1 (fun i hi => by (try dsimp only); rw [if_neg hi]) 6
    (try dsimp only at h1)
    rw [if_pos (show g < ((6 : Nat) : Int) by omega), if_pos rfl] at h1
    have h2 : Sm (fun h => tonsOf P h) 6 = Sm (fun h => if h = g then tonsOf P g else tonsOf U h) 6 := Sm_cg (fun j hj => by
      (try dsimp only)
      by_cases z : (j : Int) = g
      · rw [if_pos z, z]
      · rw [if_neg z, tg j (by omega) (by omega) z])
    have a9' : Sm (fun g => tonsOf U g) 6 ≤ 50 * U 16 26 := a9
    show Sm (fun g => tonsOf P g) 6 ≤ 50 * P 16 26
    rw [p26, h2]
    omega
theorem inv_ldF {s k : Int} (I : Inv V) : Inv (ldF V s k) := by
  have o : ∀ t, t ≠ 134 → t ≠ 135 → ldF V s k t = V t := fun t h1 h2 => funext fun i => by
    unfold ldF ldV
    rw [if_neg (fun z => by omega)]
  exact I.cgA I.1.ld (fun t ht => o t (by omega) (by omega)) (by rw [o _ (by decide) (by decide)]) (by rw [o _ (by decide) (by decide)]) (by rw [o _ (by decide) (by decide)]; exact I.d) (I.u.cg (o _ (by decide) (by decide)) (o _ (by decide) (by decide)) (by rw [o _ (by decide) (by decide)]))
theorem fgV_o {g p : Int} {t : Nat} (h1 : t ≠ 16) : fgV V g p t = V t := by
  unfold fgV
  rw [jU_f _ h1, jU_f _ h1]
theorem fgV_s {g p i : Int} (h1 : i ≠ 36) (h2 : i ≠ 37) : fgV V g p 16 i = V 16 i := by
  unfold fgV
  rw [jU_s _ h2, jU_s _ h1]
theorem inv_load {s k g n : Int} (I : Inv V) : Inv (sp_load V s k g n).2 := by
  have f := I.1.f
  unfold sp_load
  split
  · rename_i q1
    split
    · rename_i q2
      split
      · rename_i q3
        split
        · exact I
        · rename_i q4
          split
          · exact I
          · rename_i q5
            split
            · exact I
            · rename_i q6
              have hb := gr_b (inv_ldF (s := s) (k := k) I).1 (ldC V s) (V 16 26)
              have I1 := (inv_ldF (s := s) (k := k) I).fg hb.1 hb.2
              split
              · exact I1
              · rename_i q7
                have hc : 0 ≤ ldC V s ∧ ldC V s ≤ 19 := by
                  have := inF_b V s (V 16 3) (V 16 11).toNat
                  unfold ldC at q6 ⊢
                  omega
                have e2 : fgV (ldF V s k) (grF (ldF V s k) (ldC V s) (V 16 26)) (payF (ldF V s k) (ldC V s) (V 16 26)) 16 2 = V 16 2 := by rw [fgV_s (by decide) (by decide), ldF_o (by decide) (by decide)]
                have e26 : fgV (ldF V s k) (grF (ldF V s k) (ldC V s) (V 16 26)) (payF (ldF V s k) (ldC V s) (V 16 26)) 16 26 = V 16 26 := by rw [fgV_s (by decide) (by decide), ldF_o (by decide) (by decide)]
                have e138 : fgV (ldF V s k) (grF (ldF V s k) (ldC V s) (V 16 26)) (payF (ldF V s k) (ldC V s) (V 16 26)) 138 = V 138 := by rw [fgV_o (by decide), ldF_o (by decide) (by decide)]
                generalize fgV (ldF V s k) (grF (ldF V s k) (ldC V s) (V 16 26)) (payF (ldF V s k) (ldC V s) (V 16 26)) = P at *
                generalize grF (ldF V s k) (ldC V s) (V 16 26) = gr at *
                generalize payF (ldF V s k) (ldC V s) (V 16 26) = py at *
                generalize ldC V s = c at *
                have J1 := ((((((I1.uT (t := 127) (i := V 16 26) (x := s) (by decide) (fun _ => by show (0 : Int) ≤ s ∧ s ≤ 7; omega)).uT (t := 128) (i := V 16 26) (x := k) (by decide) (fun _ => by show (0 : Int) ≤ k ∧ k ≤ 9; omega)).uT (t := 129) (i := V 16 26) (x := n) (by decide) (fun _ => by show (0 : Int) ≤ n ∧ n ≤ 50; omega)).uT (t := 130) (i := V 16 26) (x := V 16 3) (by decide) (fun _ => by show (0 : Int) ≤ V 16 3 ∧ V 16 3 ≤ 10000; omega)).uT (t := 131) (i := V 16 26) (x := c) (by decide) (fun _ => by show (0 : Int) ≤ c ∧ c ≤ 19; omega)).uT (t := 132) (i := V 16 26) (x := gr) (by decide) (fun _ => by show (-1 : Int) ≤ gr ∧ gr ≤ 12; omega)).uT (t := 133) (i := V 16 26) (x := py) (by decide) (fun _ => by show (0 : Int) ≤ py ∧ py ≤ 99999; omega)
                have J2 := J1.u109 (s := s) (x := P 109 s + n * py) (by simp only [jU_o _ (show (16 : Nat) ≠ 127 by decide), jU_o _ (show (16 : Nat) ≠ 128 by decide), jU_o _ (show (16 : Nat) ≠ 129 by decide), jU_o _ (show (16 : Nat) ≠ 130 by decide), jU_o _ (show (16 : Nat) ≠ 131 by decide), jU_o _ (show (16 : Nat) ≠ 132 by decide), jU_o _ (show (16 : Nat) ≠ 133 by decide)]; omega)
                have x26 : jU (jU (jU (jU (jU (jU (jU (jU P 127 (V 16 26) s) 128 (V 16 26) k) 129 (V 16 26) n) 130 (V 16 26) (V 16 3)) 131 (V 16 26) c) 132 (V 16 26) gr) 133 (V 16 26) py) 109 s (P 109 s + n * py) 16 26 = V 16 26 := by
                  simp only [jU_o _ (show (16 : Nat) ≠ 127 by decide), jU_o _ (show (16 : Nat) ≠ 128 by decide), jU_o _ (show (16 : Nat) ≠ 129 by decide), jU_o _ (show (16 : Nat) ≠ 130 by decide), jU_o _ (show (16 : Nat) ≠ 131 by decide), jU_o _ (show (16 : Nat) ≠ 132 by decide), jU_o _ (show (16 : Nat) ≠ 133 by decide), jU_o _ (show (16 : Nat) ≠ 109 by decide)]
                  exact e26
                have xl : layAll (jU (jU (jU (jU (jU (jU (jU (jU P 127 (V 16 26) s) 128 (V 16 26) k) 129 (V 16 26) n) 130 (V 16 26) (V 16 3)) 131 (V 16 26) c) 132 (V 16 26) gr) 133 (V 16 26) py) 109 s (P 109 s + n * py)) = layAll V := by
                  unfold layAll
                  rw [jU_f _ (by decide), jU_f _ (by decide), jU_f _ (by decide), jU_f _ (by decide), jU_f _ (by decide), jU_f _ (by decide), jU_f _ (by decide), jU_f _ (by decide), e138]
                have := I.2.2.2.1
                exact J2.put (g := g) (n := n) (l := V 16 26) (c := py) (by omega) (by omega) x26.symm (by omega) (by omega) hb.2
      · exact I.er (by omega)
    · exact I.er (by omega)
  · exact I.er (by omega)
theorem inv_sample {l m lo hi : Int} (I : Inv V) (h7 : ∀ l, 0 ≤ l → l < V 16 26 → V 127 l < V 16 2) : Inv (sp_sample V l m lo hi).2 := by
  unfold sp_sample
  split
  · rename_i q1
    split
    · rename_i q2
      split
      · rename_i q3
        have r4 := I.1 134 (5 * l + m) rfl
        have r5 := I.1 135 (5 * l + m) rfl
        simp [jLo, jHi] at r4 r5
        have I1 : Inv (smW V l m lo hi) := (I.uT (by decide) (fun _ => by show (0 : Int) ≤ max _ _ ∧ max _ _ ≤ 10000; omega)).uT (by decide) (fun _ => by show (0 : Int) ≤ min _ _ ∧ min _ _ ≤ 10000; omega)
        have hb := gr_b I1.1 (V 131 l) l
        have e2 : fgV (smW V l m lo hi) (grF (smW V l m lo hi) (V 131 l) l) (payF (smW V l m lo hi) (V 131 l) l) 16 2 = V 16 2 := by
          rw [fgV_s (by decide) (by decide)]
          unfold smW
          rw [jU_o _ (by decide), jU_o _ (by decide)]
        exact (((I1.fg hb.1 hb.2).u109 (by rw [e2]; exact h7 l q1.1 q1.2)).uT (by decide) (fun _ => by exact hb.1)).uT (by decide) (fun _ => by exact hb.2)
      · exact I
    · exact I.er (by omega)
  · exact I.er (by omega)
theorem Inv.scr (I : Inv V) (R : isR W) (hs : scr W V) : Inv W := by
  have e : ∀ t, t < 148 ∨ 151 < t → W t = V t := fun t ht => funext fun i => hs t i ht
  exact I.cgA R (fun t ht => e t (by omega)) (by rw [e _ (by decide)]) (by rw [e _ (by decide)]) (by rw [e _ (by decide)]; exact I.d) (I.u.cg (e _ (by decide)) (e _ (by decide)) (by rw [e _ (by decide)]))
theorem Inv.scp (I : Inv V) (R : isR W) (hs : scp W V) : Inv W := by
  have e : ∀ t, t ≠ 158 → t ≠ 159 → W t = V t := fun t ht h2 => funext fun i => hs t i ht h2
  exact I.cgA R (fun t ht => e t (by omega) (by omega)) (by rw [e _ (by decide) (by decide)]) (by rw [e _ (by decide) (by decide)]) (by rw [e _ (by decide) (by decide)]; exact I.d) (I.u.cg (e _ (by decide) (by decide)) (e _ (by decide) (by decide)) (by rw [e _ (by decide) (by decide)]))
theorem Inv.scc {c : Int} (I : Inv V) (R : isR U) (hs : scc c U (jU V 16 10 0)) : Inv U := by
  have e : ∀ t, t ≠ 16 → t < 119 ∨ 125 < t → U t = V t := fun t h1 h2 => funext fun i => by
    rw [hs t i (by unfold cSc; omega), jU_o _ h1]
  have s : ∀ i, i < 10 ∨ 15 < i → U 16 i = V 16 i := fun i h2 => by
    rw [hs 16 i (by unfold cSc; omega), jU_s _ (by omega)]
  have s10 : U 16 10 = 0 := by rw [hs 16 10 (by unfold cSc; omega), jU_same]
  exact I.cgA R (fun t ht => e t (by omega) (by omega)) (s _ (by decide)) (s _ (by decide)) (by rw [s10]; decide) (I.u.cg (e _ (by decide) (by decide)) (e _ (by decide) (by decide)) (s _ (by decide)))
theorem inv_ct {c sel dy : Int} (I : Inv U) (hc : 0 ≤ c ∧ c < 20) (hs : 0 ≤ sel ∧ sel < 8) (hd : 0 ≤ dy ∧ dy ≤ 10000) : Inv (jU (jU (jU U 117 c sel) 118 c dy) 16 11 (c + 1)) :=
  ((I.uT (by decide) (fun _ => by show (0 : Int) ≤ sel ∧ sel ≤ 7; omega)).uT (by decide) (fun _ => by exact hd)).u16 (by decide) (by show (0 : Int) ≤ c + 1 ∧ c + 1 ≤ 20; omega)
theorem inv_V0 : Inv V0 := by
  have z : ∀ t i, t ≠ 147 → V0 t i = 0 := fun t i h => by
    unfold V0
    rw [if_neg (fun q => h q.1)]
  have R : isR V0 := fun t i _ => by
    have := jLoHi t i
    by_cases c : t = 147
    · subst c
      unfold V0
      split
      · show (0 : Int) ≤ 10000 ∧ (10000 : Int) ≤ 10000; omega
      · show (0 : Int) ≤ 0 ∧ (0 : Int) ≤ 10000; omega
    · rw [z t i c]
      omega
  have t0 : ∀ g, tonsOf V0 g = 0 := fun g => by
    unfold tonsOf
    rw [z 138 g (by decide)]
    rfl
  refine ⟨R, fun g j g1 g2 j1 j2 => ?_, fun i k i1 i2 k1 k2 => ?_, ?_, fun g j g1 g2 j1 j2 => ?_, fun i k i1 i2 k1 k2 => ?_, by rw [z _ _ (by decide)]; rfl, fun s _ => ⟨z _ _ (by decide), fun _ _ _ _ _ _ => z _ _ (by decide)⟩, ?_⟩
  · rw [z _ _ (by decide)] at j2; omega
  · rw [z _ _ (by decide)] at k2; omega
  · unfold layAll
    simp [Sm, z 138 _ (by decide)]
  · rw [z _ _ (by decide)] at j2; omega
  · rw [z _ _ (by decide)] at k2; omega
  · unfold tnB
    simp [Sm, t0, z 16 _ (by decide)]
end INV

