section INV2
variable {V V' W U : VV}
theorem Sm_app {f : Int → Int} (a : Nat) : ∀ b : Nat, Sm f (a + b) = Sm f a + Sm (fun j => f ((a : Int) + j)) b := fun b => by
  induction b with
  | zero => simp [Sm]
  | succ b ih =>
    rw [show a + (b + 1) = (a + b) + 1 by omega, Sm, Sm, ih, show ((a + b : Nat) : Int) = (a : Int) + (b : Int) by omega]
    omega
theorem Sm_rev {f : Int → Int} (m : Nat) : ∀ w : Nat, w ≤ m → Sm f m = Sm f (m - w) + Sm (fun j => f ((m : Int) - 1 - j)) w := fun w => by
  induction w with
  | zero => intro _; simp [Sm]
  | succ w ih =>
    intro h
    rw [ih (by omega), Sm]
    have e : m - w = (m - (w + 1)) + 1 := by omega
    rw [e, Sm, show (((m - (w + 1) : Nat)) : Int) = (m : Int) - 1 - (w : Int) by omega]
    omega
theorem Sm_l2 {F F' : Int → Int} : ∀ n : Nat, (∀ i : Nat, i < n → F' i ≤ F i) → Sm F' n ≤ Sm F n := fun n => by
  induction n with
  | zero => intro _; exact Int.le_refl _
  | succ n ih =>
    intro h
    have h1 := ih (fun i hi => h i (by omega))
    have h2 := h n (by omega)
    rw [Sm, Sm]
    omega
theorem Sm_a {F F' : Int → Int} {f : Int} (hf : 0 ≤ f ∧ f < 6) (h : ∀ i, 0 ≤ i → i < 6 → i ≠ f → F' i = F i) : Sm F' 6 = Sm F 6 + (F' f - F f) := by
  have h1 := Sm_1 (F := F) (F' := fun i => if i = f then F' f else F i) hf.1 (fun i hi => by (try dsimp only); rw [if_neg hi]) 6
  (try dsimp only at h1)
  rw [if_pos (show f < ((6 : Nat) : Int) by omega), if_pos rfl] at h1
  rw [← h1]
  refine Sm_cg (fun j hj => ?_)
  (try dsimp only)
  by_cases z : (j : Int) = f
  · rw [if_pos z, z]
  · rw [if_neg z, h j (by omega) (by omega) z]
theorem Sm_2 {F F' : Int → Int} {f t : Int} (hf : 0 ≤ f ∧ f < 6) (ht : 0 ≤ t ∧ t < 6) (hft : f ≠ t) (h : ∀ i, 0 ≤ i → i < 6 → i ≠ f → i ≠ t → F' i = F i) : Sm F' 6 = Sm F 6 + (F' f - F f) + (F' t - F t) := by
  have h1 := Sm_a (F := F) (F' := fun i => if i = f then F' f else F i) hf (fun i _ _ hi => by (try dsimp only); rw [if_neg hi])
  have h2 := Sm_a (F := fun i => if i = f then F' f else F i) (F' := F') ht (fun i i0 i1 hi => by
    (try dsimp only)
    by_cases z : i = f
    · rw [if_pos z, z]
    · rw [if_neg z, h i i0 i1 z hi])
  (try dsimp only at h1 h2)
  rw [if_pos rfl] at h1
  rw [if_neg (fun q => hft q.symm)] at h2
  omega
theorem inv_mv {f t w l : Int} (I : Inv V) (hf : 0 ≤ f ∧ f < 6) (ht : 0 ≤ t ∧ t < 6) (hft : f ≠ t) (hw : 0 ≤ w ∧ w ≤ V 138 f) (hl : 0 < l → w < V 138 f ∧ l < V 139 (41 * f + (V 138 f - w - 1)) ∧ layAll V < 40) (hO : mvOk V V' f t w l) : Inv V' := by
  obtain ⟨R, a2, a3, a4, a5, a6, a7, a8, a9⟩ := I
  have hm := lay2 R hf ht hft
  have r138 : ∀ i, 0 ≤ V 138 i ∧ V 138 i ≤ 40 := fun i => R 138 i rfl
  have r139 : ∀ i, 0 ≤ V 139 i ∧ V 139 i ≤ 5000 := fun i => R 139 i rfl
  have m' := hO.m'
  have o' := hO.o'
  have y' := hO.y'
  have n' := hO.n'
  have s' := hO.s'
  have rf := r138 f
  have rt := r138 t
  generalize hd : (if 0 < l then (1 : Int) else 0) = d at m' y' s'
  have hd1 : 0 < l ∧ d = 1 ∨ l ≤ 0 ∧ d = 0 := by
    by_cases z : 0 < l
    · rw [if_pos z] at hd; left; omega
    · rw [if_neg z] at hd; right; omega
  have mf : V' 138 f = V 138 f - w := by rw [m', if_pos rfl]
  have mt : V' 138 t = V 138 t + w + d := by rw [m', if_neg (fun q => hft q.symm), if_pos rfl]
  have mo : ∀ i, i ≠ f → i ≠ t → V' 138 i = V 138 i := fun i h1 h2 => by rw [m', if_neg h1, if_neg h2]
  have hdl : V 138 t + w + d ≤ 40 := by omega
  have s16 : ∀ i, V' 16 i = V 16 i := fun i => by rw [o' 16 (by omega)]
  have nf : ∀ j, 0 ≤ j → j < V 138 f - w → V' 139 (41 * f + j) = if 0 < l ∧ j = V 138 f - w - 1 then V 139 (41 * f + j) - l else V 139 (41 * f + j) := fun j j0 j1 => by
    rw [n']
    have c1 : ¬ (41 * t + V 138 t ≤ 41 * f + j ∧ 41 * f + j < 41 * t + V 138 t + w) := by omega
    have c2 : ¬ (0 < l ∧ 41 * f + j = 41 * t + V 138 t + w) := by omega
    rw [if_neg c1, if_neg c2]
    by_cases c3 : 0 < l ∧ j = V 138 f - w - 1
    · rw [if_pos c3, if_pos ⟨c3.1, by omega⟩]
    · rw [if_neg c3, if_neg (by omega)]
  have nt : ∀ j, 0 ≤ j → j < V 138 t → V' 139 (41 * t + j) = V 139 (41 * t + j) := fun j j0 j1 => by
    rw [n', if_neg (by omega), if_neg (by omega), if_neg (by omega)]
  have nw : ∀ j, 0 ≤ j → j < w → V' 139 (41 * t + (V 138 t + j)) = V 139 (41 * f + (V 138 f - 1 - j)) := fun j j0 j1 => by
    rw [n', if_pos (by omega)]
    congr 1
    omega
  have nl : 0 < l → V' 139 (41 * t + (V 138 t + w)) = l := fun z => by
    rw [n', if_neg (by omega), if_pos ⟨z, by omega⟩]
  have no : ∀ g j, 0 ≤ g → g < 6 → g ≠ f → g ≠ t → 0 ≤ j → j < V 138 g → V' 139 (41 * g + j) = V 139 (41 * g + j) := fun g j g0 g1 h1 h2 j0 j1 => by
    have := r138 g
    rw [n', if_neg (by omega), if_neg (by omega), if_neg (by omega)]
  refine ⟨fun r i hr => ?_, fun g j g0 g1 j0 j1 => ?_, fun i k i0 i1 k0 k1 => ?_, ?_, fun g j g0 g1 j0 j1 => ?_, fun i k i0 i1 k0 k1 => ?_, by rw [s16]; exact a7, a8.cg (o' _ (by decide)) (o' _ (by decide)) (s16 _), ?_⟩
  · by_cases c0 : r < 138 ∨ 143 < r
    · rw [o' r c0]; exact R r i hr
    · have hr' : r = 138 ∨ r = 139 ∨ (r = 140 ∨ r = 141) ∨ (r = 142 ∨ r = 143) := by omega
      rcases hr' with z | z | z | z
      · subst z
        show (0 : Int) ≤ V' 138 i ∧ V' 138 i ≤ 40
        rw [m']
        have := r138 i
        split
        · omega
        · split
          · omega
          · omega
      · subst z
        show (0 : Int) ≤ V' 139 i ∧ V' 139 i ≤ 5000
        rw [n']
        have q1 := r139 i
        split
        · exact r139 _
        · split
          · rename_i _ q
            have q2 := hl q.1
            have q3 := r139 (41 * f + (V 138 f - w - 1))
            omega
          · split
            · rename_i _ _ q
              have q2 := (hl q.1).2.1
              have q3 : V 139 i = V 139 (41 * f + (V 138 f - w - 1)) := by rw [q.2]; congr 1; omega
              omega
            · exact q1
      · rw [y' r z]
        rcases z with z | z
        · subst z
          split
          · exact R 140 _ rfl
          · exact R 140 _ rfl
        · subst z
          split
          · exact R 141 _ rfl
          · exact R 141 _ rfl
      · have hi : 5 * (i / 5) + i % 5 = i := by omega
        have := s' r z (i / 5) (i % 5) (by omega) (by omega)
        rw [hi] at this
        rw [this]
        rcases z with z | z
        · subst z
          split
          · exact R 142 _ rfl
          · exact R 142 _ rfl
        · subst z
          split
          · exact R 143 _ rfl
          · exact R 143 _ rfl
  · by_cases c1 : g = f
    · subst c1
      rw [mf] at j1
      rw [nf j j0 j1]
      split
      · rename_i q
        have q2 := (hl q.1).2.1
        rw [q.2]
        omega
      · exact a2 g j g0 g1 j0 (by omega)
    · by_cases c2 : g = t
      · subst c2
        rw [mt] at j1
        by_cases c3 : j < V 138 g
        · rw [nt j j0 c3]; exact a2 g j g0 g1 j0 c3
        · by_cases c4 : j < V 138 g + w
          · have e := nw (j - V 138 g) (by omega) (by omega)
            rw [show V 138 g + (j - V 138 g) = j by omega] at e
            rw [e]
            exact a2 f _ hf.1 hf.2 (by omega) (by omega)
          · have e := nl (by omega)
            rw [show V 138 g + w = j by omega] at e
            rw [e]
            omega
      · rw [mo g c1 c2] at j1
        rw [no g j g0 g1 c1 c2 j0 j1]
        exact a2 g j g0 g1 j0 j1
  · rw [o' 154 (by decide)]
    rw [o' 153 (by decide)] at k1
    rw [s16] at i1
    exact a3 i k i0 i1 k0 k1
  · have h2 := Sm_2 (F := fun h => V 138 h) (F' := fun h => V' 138 h) hf ht hft (fun i _ _ h1 h2 => mo i h1 h2)
    (try dsimp only at h2)
    rw [mf, mt] at h2
    unfold layAll at hl a4 ⊢
    rcases hd1 with ⟨z, zz⟩ | ⟨z, zz⟩
    · have := (hl z).2.2
      omega
    · omega
  · rw [s16]
    rw [y' 140 (Or.inl rfl)]
    by_cases c0 : 41 * t + V 138 t ≤ 41 * g + j ∧ 41 * g + j < 41 * t + V 138 t + w + d
    · rw [if_pos c0]
      rw [show 41 * f + V 138 f - 1 - (41 * g + j - (41 * t + V 138 t)) = 41 * f + (V 138 f - 1 - (41 * g + j - (41 * t + V 138 t))) by omega]
      exact a5 f _ hf.1 hf.2 (by omega) (by omega)
    · rw [if_neg c0]
      refine a5 g j g0 g1 j0 ?_
      by_cases c1 : g = f
      · subst c1
        rw [mf] at j1
        omega
      · by_cases c2 : g = t
        · subst c2
          rw [mt] at j1
          omega
        · rw [mo g c1 c2] at j1
          exact j1
  · rw [o' 155 (by decide), s16]
    rw [o' 153 (by decide)] at k1
    rw [s16] at i1
    exact a6 i k i0 i1 k0 k1
  · have tf : tonsOf V' f = Sm (fun k => V 139 (41 * f + k)) (V 138 f - w).toNat - (if 0 < l then l else 0) := by
      unfold tonsOf
      rw [mf]
      by_cases z : 0 < l
      · have := (hl z).1
        rw [if_pos z, show (V 138 f - w).toNat = (V 138 f - w - 1).toNat + 1 by omega, Sm, Sm]
        have e1 : Sm (fun k => V' 139 (41 * f + k)) (V 138 f - w - 1).toNat = Sm (fun k => V 139 (41 * f + k)) (V 138 f - w - 1).toNat := Sm_cg (fun j hj => by
          (try dsimp only)
          rw [nf j (by omega) (by omega), if_neg (by omega)])
        rw [e1]
        (try dsimp only)
        rw [nf _ (by omega) (by omega), if_pos ⟨z, by omega⟩]
        omega
      · rw [if_neg z]
        have e1 : Sm (fun k => V' 139 (41 * f + k)) (V 138 f - w).toNat = Sm (fun k => V 139 (41 * f + k)) (V 138 f - w).toNat := Sm_cg (fun j hj => by
          (try dsimp only)
          rw [nf j (by omega) (by omega), if_neg (by omega)])
        rw [e1]
        omega
    have tt : tonsOf V' t = tonsOf V t + Sm (fun j => V 139 (41 * f + (V 138 f - 1 - j))) w.toNat + (if 0 < l then l else 0) := by
      unfold tonsOf
      rw [mt]
      have e1 : Sm (fun k => V' 139 (41 * t + k)) ((V 138 t).toNat + w.toNat) = Sm (fun k => V 139 (41 * t + k)) (V 138 t).toNat + Sm (fun j => V 139 (41 * f + (V 138 f - 1 - j))) w.toNat := by
        rw [Sm_app]
        congr 1
        · exact Sm_cg (fun j hj => by
            (try dsimp only)
            rw [nt j (by omega) (by omega)])
        · exact Sm_cg (fun j hj => by
            (try dsimp only)
            rw [show ((V 138 t).toNat : Int) = V 138 t by omega]
            exact nw j (by omega) (by omega))
      rcases hd1 with ⟨z, zz⟩ | ⟨z, zz⟩
      · rw [if_pos z, show (V 138 t + w + d).toNat = ((V 138 t).toNat + w.toNat) + 1 by omega, Sm, e1]
        (try dsimp only)
        rw [show (((V 138 t).toNat + w.toNat : Nat) : Int) = V 138 t + w by omega, nl z]
      · rw [if_neg (by omega), show (V 138 t + w + d).toNat = ((V 138 t).toNat + w.toNat) by omega, e1]
        omega
    have tv : tonsOf V f = Sm (fun k => V 139 (41 * f + k)) (V 138 f - w).toNat + Sm (fun j => V 139 (41 * f + (V 138 f - 1 - j))) w.toNat := by
      unfold tonsOf
      rw [Sm_rev (V 138 f).toNat w.toNat (by omega)]
      congr 1
      · congr 1
        omega
      · exact Sm_cg (fun j hj => by
          (try dsimp only)
          rw [show ((V 138 f).toNat : Int) = V 138 f by omega])
    have h2 := Sm_2 (F := fun h => tonsOf V h) (F' := fun h => tonsOf V' h) hf ht hft (fun i i0 i1 h1 h2 => by
      (try dsimp only)
      have := r138 i
      unfold tonsOf
      rw [mo i h1 h2]
      exact Sm_cg (fun j hj => no i j i0 i1 h1 h2 (by omega) (by omega)))
    (try dsimp only at h2)
    have a9' : Sm (fun g => tonsOf V g) 6 ≤ 50 * V 16 26 := a9
    show Sm (fun g => tonsOf V' g) 6 ≤ 50 * V' 16 26
    rw [s16, h2, tf, tt, tv]
    omega
theorem inv_move {f t n : Int} (I : Inv V) : Inv (sp_move V f t n).2 := by
  have R := I.1
  unfold sp_move
  split
  · rename_i q1
    split
    · rename_i q2
      split
      · rename_i q3
        split
        · exact I
        · rename_i q4
          split
          · exact I
          · rename_i q5
            have rf : 0 ≤ V 138 f ∧ V 138 f ≤ 40 := R 138 f rfl
            have rt : 0 ≤ V 138 t ∧ V 138 t ≤ 40 := R 138 t rfl
            have hm := lay2 R q1 q2 q3.1
            have h4 := I.2.2.2.1
            obtain ⟨b1, b2, b3, b4⟩ := mvW_b V f (fun i => (R 139 i rfl).1) (V 138 f).toNat n (by omega)
            have b5 := fun z => b4 (by have : ¬ tonsOf V f < n := q4; unfold tonsOf at this; omega) z
            rw [show (((V 138 f).toNat : Nat) : Int) = V 138 f by omega] at b5
            exact inv_mv (w := ((mvW V f (V 138 f).toNat n).1 : Int)) (l := (mvW V f (V 138 f).toNat n).2) I q1 q2 q3.1 (by omega) (fun z => ⟨by have := (b5 z).1; omega, (b5 z).2, by omega⟩) (mv_ok q1 q2 q3.1 (by omega) (fun z => by have := (b5 z).1; omega) (by omega))
      · exact I.er (by omega)
    · exact I.er (by omega)
  · exact I.er (by omega)
theorem inv_mix {g : Int} (I : Inv V) : Inv (sp_mix V g).2 := by
  unfold sp_mix
  split
  · rename_i q1
    split
    · exact I
    · rename_i q2
      have I0 := I
      obtain ⟨R, a2, a3, a4, a5, a6, a7, a8, a9⟩ := I
      have hp := tons_p R a2 q1 (by omega)
      have hg5 := tons_g I0 q1
      have mb := mx_b R (g := g) (by omega)
      have r138 : ∀ i, 0 ≤ V 138 i ∧ V 138 i ≤ 40 := fun i => R 138 i rfl
      have RB : isR (mxB V g) := (((R.mxAR (g := g) (m := 5) (by omega)).up (fun _ => by show (0 : Int) ≤ tonsOf V g ∧ tonsOf V g ≤ 5000; omega)).up (fun _ => by show (-1 : Int) ≤ -1 ∧ (-1 : Int) ≤ 99; omega)).up (fun _ => by exact mb.2)
      have RD : isR (mxD V g 5) := RB.ofO (fun t i _ => by
        unfold mxD
        split
        · rename_i z
          right
          rcases z.1 with y | y
          · subst y; rw [if_pos rfl]; exact (mb.1 _).1
          · subst y; rw [if_neg (by decide)]; exact (mb.1 _).2
        · exact Or.inl rfl)
      have RE : isR (jU (mxD V g 5) 138 g 1) := RD.up (fun _ => by show (0 : Int) ≤ 1 ∧ (1 : Int) ≤ 40; omega)
      have dB : ∀ t i, t ≠ 142 → t ≠ 143 → mxD V g 5 t i = mxB V g t i := fun t i h1 h2 => by
        unfold mxD
        rw [if_neg (by omega)]
      have eA : ∀ t i, t ≠ 144 → t ≠ 145 → mxA V g 5 t i = V t i := fun t i h1 h2 => by
        unfold mxA
        rw [if_neg (by omega)]
      have e138 : ∀ i, jU (mxD V g 5) 138 g 1 138 i = if i = g then 1 else V 138 i := fun i => by
        rw [jU_at, dB _ _ (by decide) (by decide)]
        unfold mxB
        rw [jU_o _ (by decide), jU_o _ (by decide), jU_o _ (by decide), eA _ _ (by decide) (by decide)]
      have e139 : ∀ i, jU (mxD V g 5) 138 g 1 139 i = if i = 41 * g then tonsOf V g else V 139 i := fun i => by
        rw [jU_o _ (by decide), dB _ _ (by decide) (by decide)]
        unfold mxB
        rw [jU_o _ (by decide), jU_o _ (by decide), jU_at, eA _ _ (by decide) (by decide)]
      have e140 : ∀ i, jU (mxD V g 5) 138 g 1 140 i = if i = 41 * g then -1 else V 140 i := fun i => by
        rw [jU_o _ (by decide), dB _ _ (by decide) (by decide)]
        unfold mxB
        rw [jU_o _ (by decide), jU_at, jU_o _ (by decide), eA _ _ (by decide) (by decide)]
      have eo : ∀ t, t < 138 ∨ 145 < t → jU (mxD V g 5) 138 g 1 t = V t := fun t ht => funext fun i => by
        rw [jU_o _ (by omega), dB _ _ (by omega) (by omega)]
        unfold mxB
        rw [jU_o _ (by omega), jU_o _ (by omega), jU_o _ (by omega), eA _ _ (by omega) (by omega)]
      show Inv (jU (mxD V g 5) 138 g 1)
      generalize jU (mxD V g 5) 138 g 1 = P at *
      have lt : ∀ i j, j < P 138 i → j < V 138 i := fun i j h => by
        rw [e138] at h
        by_cases z : i = g
        · rw [if_pos z] at h; rw [z]; omega
        · rw [if_neg z] at h; exact h
      refine ⟨RE, fun g' j g0 g1 j0 j1 => ?_, fun i k i0 i1 k0 k1 => ?_, ?_, fun g' j g0 g1 j0 j1 => ?_, fun i k i0 i1 k0 k1 => ?_, by rw [eo 16 (by decide)]; exact a7, a8.cg (eo _ (by decide)) (eo _ (by decide)) (by rw [eo 16 (by decide)]), ?_⟩
      · rw [e139]
        split
        · omega
        · exact a2 g' j g0 g1 j0 (lt _ _ j1)
      · rw [eo 154 (by decide)]
        rw [eo 153 (by decide)] at k1
        rw [eo 16 (by decide)] at i1
        exact a3 i k i0 i1 k0 k1
      · unfold layAll at a4 ⊢
        have h1 : Sm (fun h => P 138 h) 6 ≤ Sm (fun h => V 138 h) 6 := Sm_l2 6 (fun i _ => by
          (try dsimp only)
          rw [e138]
          split
          · rename_i z; rw [z]; omega
          · exact Int.le_refl _)
        omega
      · have r26 := (R.f).2.2.2.2.2.2.2.2.2.1
        rw [e140, eo 16 (by decide)]
        split
        · omega
        · exact a5 g' j g0 g1 j0 (lt _ _ j1)
      · rw [eo 155 (by decide), eo 16 (by decide)]
        rw [eo 153 (by decide)] at k1
        rw [eo 16 (by decide)] at i1
        exact a6 i k i0 i1 k0 k1
      · have tg : ∀ i, 0 ≤ i → i < 6 → tonsOf P i = tonsOf V i := fun i i0 i1 => by
          by_cases z : i = g
          · have e : tonsOf P i = P 139 (41 * i) := by
              unfold tonsOf
              rw [e138, if_pos z]
              show 0 + P 139 (41 * i + ((0 : Nat) : Int)) = _
              rw [show 41 * i + ((0 : Nat) : Int) = 41 * i by omega]
              omega
            rw [e, e139, if_pos (by rw [z]), z]
          · have := r138 i
            unfold tonsOf
            rw [e138, if_neg z]
            exact Sm_cg (fun j hj => by
              (try dsimp only)
              rw [e139, if_neg (by omega)])
        have a9' : Sm (fun g => tonsOf V g) 6 ≤ 50 * V 16 26 := a9
        show Sm (fun g => tonsOf P g) 6 ≤ 50 * P 16 26
        rw [eo 16 (by decide), Sm_cg (g := fun g => tonsOf V g) (fun i hi => tg i (by omega) (by omega))]
        exact a9'
  · exact I.er (by omega)
/-- what holds while the layers of a melt are taken -/
def mLI (U : VV) (M : Int) : Prop := mlI U M ∧ layAll U ≤ 40 ∧ refL U ∧ (∀ i k : Int, 0 ≤ i → i ≤ M → 0 ≤ k → k < U 153 i → 1 ≤ U 154 (20 * i + k) ∧ U 155 (20 * i + k) < U 16 26) ∧ unS U ∧ U 16 10 % 20 = 0 ∧ tnB U
theorem mlV_L {h left M : Int} (L : mLI U M) (hM0 : 0 ≤ M) (hh : 0 ≤ h ∧ h < 6) (hl : 0 < left ∧ left ≤ tonsOf U h ∧ left ≤ 20) (hM : U 153 M < 20) : mLI (mlV U h left) M := by
  obtain ⟨I, a1, a2, a3, a4, a5, a6⟩ := L
  obtain ⟨b1, b2, b3, b4, b5, b6, b7⟩ := mlT_b I.1 I.2.1 hh ⟨hl.1, hl.2.1⟩
  obtain ⟨t1, t2⟩ := mlV_tons I.1 I.2.1 hh ⟨hl.1, hl.2.1⟩
  have o : ∀ r, r ≠ 138 → r ≠ 139 → r < 153 ∨ 157 < r → mlV U h left r = U r := fun r h1 h2 h3 => funext fun i => mlV_o h1 h2 h3
  have l138 : ∀ i, mlV U h left 138 i ≤ U 138 i := fun i => by
    rw [mlV_138]
    split
    · rename_i z; rw [z.1]; omega
    · exact Int.le_refl _
  have r153 : ∀ i, 0 ≤ U 153 i ∧ U 153 i ≤ 20 := fun i => I.1 153 i rfl
  refine ⟨mlV_I I hh hl hM, ?_, fun g j g0 g1 j0 j1 => ?_, fun i k i0 i1 k0 k1 => ?_, a4.cg (o _ (by decide) (by decide) (by decide)) (o _ (by decide) (by decide) (by decide)) (by rw [o _ (by decide) (by decide) (by decide)]), by rw [o 16 (by decide) (by decide) (by decide)]; exact a5, ?_⟩
  · have h1 : Sm (fun i => mlV U h left 138 i) 6 ≤ Sm (fun i => U 138 i) 6 := Sm_l2 6 (fun i _ => l138 i)
    unfold layAll at a1 ⊢
    omega
  · rw [o 140 (by decide) (by decide) (by decide), o 16 (by decide) (by decide) (by decide)]
    have := l138 g
    exact a2 g j g0 g1 j0 (by omega)
  · rw [o 16 (by decide) (by decide) (by decide)]
    have p := mlV_p (g := h) (left := left) I.2.2 (20 * i + k)
    rw [p.1, p.2.1]
    rw [mlV_153, I.2.2] at k1
    have := r153 M
    have := r153 i
    by_cases c : 20 * i + k = 20 * M + U 153 M
    · rw [if_pos c, if_pos c]
      refine ⟨b5, ?_⟩
      unfold mlY
      rw [show 41 * h + U 138 h - 1 = 41 * h + (U 138 h - 1) by omega]
      exact a2 h _ hh.1 hh.2 (by omega) (by omega)
    · rw [if_neg c, if_neg c]
      refine a3 i k i0 i1 k0 ?_
      by_cases z : i = M
      · rw [if_pos z] at k1; rw [z] at c ⊢; omega
      · rw [if_neg z] at k1; exact k1
  · have a6' : Sm (fun g => tonsOf U g) 6 ≤ 50 * U 16 26 := a6
    show Sm (fun g => tonsOf (mlV U h left) g) 6 ≤ 50 * mlV U h left 16 26
    rw [o 16 (by decide) (by decide) (by decide)]
    have h1 : Sm (fun g => tonsOf (mlV U h left) g) 6 ≤ Sm (fun g => tonsOf U g) 6 := Sm_l2 6 (fun i hi => by
      (try dsimp only)
      by_cases z : (i : Int) = h
      · rw [z]; omega
      · rw [t2 i (by omega) (by omega) z]; exact Int.le_refl _)
    omega
theorem mlG_L {h M : Int} (hM0 : 0 ≤ M) (hh : 0 ≤ h ∧ h < 6) : ∀ (k : Nat) (U : VV) (left : Int), left ≤ k → 0 ≤ left → mLI U M → left ≤ tonsOf U h → U 153 M + left ≤ 20 → mLI (mlG k U h left) M := by
  intro k
  induction k with
  | zero =>
    intro U left h1 h2 I h3 h4
    exact I
  | succ k ih =>
    intro U left h1 h2 L h3 h4
    have I := L.1
    rw [mlG]
    split
    · rename_i q
      have r3 : 0 ≤ U 153 M ∧ U 153 M ≤ 20 := I.1 153 M rfl
      obtain ⟨b1, b2, b3, b4, b5, b6, b7⟩ := mlT_b I.1 I.2.1 hh ⟨q, h3⟩
      obtain ⟨t1, t2⟩ := mlV_tons I.1 I.2.1 hh ⟨q, h3⟩
      have I' := mlV_L L hM0 hh ⟨q, h3, by omega⟩ (by omega)
      have e3 : mlV U h left 153 M = U 153 M + 1 := by rw [mlV_153, I.2.2, if_pos rfl]
      exact ih (mlV U h left) (left - mlT U h left) (by omega) (by omega) I' (by omega) (by omega)
    · exact L
theorem mlH_L {M : Int} {bt : Int → Int} (hM0 : 0 ≤ M) (I : mLI U M) (hb : ∀ j, 0 ≤ j → j < 6 → 0 ≤ bt j ∧ bt j ≤ tonsOf U j) (hs : Sm bt 6 ≤ 20) (h0 : U 153 M = 0) : ∀ g : Nat, g ≤ 6 → mLI (mlH U bt g) M := fun g => by
  induction g with
  | zero => intro _; exact I
  | succ g ih =>
    intro hg
    obtain ⟨a1, a2, a3, a4, a5⟩ := mlH_inv I.1 hb hs h0 g (by omega)
    obtain ⟨c1, c2, c3, c4, c5⟩ := mlH_inv I.1 hb hs h0 (g + 1) hg
    rw [Sm] at c5
    have h9 := hb (g : Int) (by omega) (by omega)
    rw [mlH]
    exact mlG_L hM0 (by omega) _ _ _ (by omega) h9.1 (ih (by omega)) (by rw [a3 g (by omega) (by omega)]; exact h9.2) (by omega)
theorem inv_melt {n : Int} (I : Inv V) (R : isR W) (hs : scr W V) (hn : 1 ≤ n ∧ n ≤ 20) (hb : (bestP V n).1 ≠ -1) (h30 : V 16 52 ≠ 30) : Inv (jU (mlH (jU W 153 (V 16 52) 0) (bestP V n).2 6) 16 52 (V 16 52 + 1)) := by
  have f := I.1.f
  have ok := (bestP_ok (n := n) I.1 (by omega)).resolve_left hb
  have IW := I.scr R hs
  obtain ⟨a1, a2, a3, a4, a5, a6, a7, a8, a9⟩ := IW
  have e52 : W 16 52 = V 16 52 := hs 16 52 (by decide)
  have eo : ∀ t, t ≠ 153 → jU W 153 (V 16 52) 0 t = W t := fun t ht => jU_f _ ht
  have L : mLI (jU W 153 (V 16 52) 0) (V 16 52) := by
    refine ⟨⟨R.up (fun _ => by show (0 : Int) ≤ 0 ∧ (0 : Int) ≤ 20; omega), ?_, by rw [eo 16 (by decide)]; exact e52⟩, ?_, ?_, fun i k i0 i1 k0 k1 => ?_, a8.cg (eo _ (by decide)) (eo _ (by decide)) (by rw [eo 16 (by decide)]), by rw [eo 16 (by decide)]; exact a7, ?_⟩
    · unfold isT; rw [eo 138 (by decide), eo 139 (by decide)]; exact a2
    · unfold layAll; rw [eo 138 (by decide)]; exact a4
    · unfold refL; rw [eo 138 (by decide), eo 140 (by decide), eo 16 (by decide)]; exact a5
    · rw [jU_at] at k1
      by_cases z : i = V 16 52
      · rw [if_pos z] at k1; omega
      · rw [if_neg z] at k1
        rw [eo 154 (by decide), eo 155 (by decide), eo 16 (by decide)]
        exact ⟨a3 i k i0 (by omega) k0 k1, a6 i k i0 (by omega) k0 k1⟩
    · unfold tnB; rw [tons_cg (eo 138 (by decide)) (eo 139 (by decide)), eo 16 (by decide)]; exact a9
  have tW : tonsOf (jU W 153 (V 16 52) 0) = tonsOf V := by
    rw [tons_cg (eo 138 (by decide)) (eo 139 (by decide))]
    exact funext fun g => hs.tons g
  obtain ⟨c0, c1, c2, c3, c4, c5, c6⟩ := mlH_L (bt := (bestP V n).2) (by omega) L (fun j j0 j1 => by rw [tW]; have := ok.2 j j0 j1; unfold mostP at this; omega) (by omega) (jU_same _ _ _ _) 6 (by omega)
  generalize mlH (jU W 153 (V 16 52) 0) (bestP V n).2 6 = P at *
  have po : ∀ t, t ≠ 16 → jU P 16 52 (V 16 52 + 1) t = P t := fun t ht => jU_f _ ht
  have ps : ∀ i, i ≠ 52 → jU P 16 52 (V 16 52 + 1) 16 i = P 16 i := fun i hi => jU_s _ hi
  refine ⟨c0.1.up (fun _ => by show (0 : Int) ≤ V 16 52 + 1 ∧ V 16 52 + 1 ≤ 30; omega), ?_, fun i k i0 i1 k0 k1 => ?_, ?_, ?_, fun i k i0 i1 k0 k1 => ?_, by rw [ps 10 (by decide)]; exact c5, c4.cg (po _ (by decide)) (po _ (by decide)) (ps _ (by decide)), ?_⟩
  · unfold isT; rw [po 138 (by decide), po 139 (by decide)]; exact c0.2.1
  · rw [jU_same] at i1
    rw [po 153 (by decide)] at k1
    rw [po 154 (by decide)]
    exact (c3 i k i0 (by omega) k0 k1).1
  · unfold layAll; rw [po 138 (by decide)]; exact c1
  · unfold refL; rw [po 138 (by decide), po 140 (by decide), ps 26 (by decide)]; exact c2
  · rw [jU_same] at i1
    rw [po 153 (by decide)] at k1
    rw [po 155 (by decide), ps 26 (by decide)]
    exact (c3 i k i0 (by omega) k0 k1).2
  · unfold tnB; rw [tons_cg (po 138 (by decide)) (po 139 (by decide)), ps 26 (by decide)]; exact c6
theorem inv_prove {i m : Int} {nl nh : Int → Int} (I : Inv V) (hm : 0 ≤ m ∧ m < 5) (hi : 0 ≤ i ∧ i < V 16 52) (h7 : ∀ l, 0 ≤ l → l < V 16 26 → V 127 l < V 16 2) (hb : ∀ j : Nat, j < (V 153 i).toNat → (0 ≤ nl j ∧ nl j ≤ 10000) ∧ (0 ≤ nh j ∧ nh j ≤ 10000)) : Inv (pvF V i m nl nh (V 153 i).toNat) := by
  have R := I.1
  have o : ∀ k t, t ≠ 106 ∧ t ≠ 107 ∧ t ≠ 108 ∧ t ≠ 156 ∧ t ≠ 157 → pvF V i m nl nh k t = V t := fun k t ht => funext fun j => pvF_o ht k
  refine I.cgA (R.pvFR _ hb) (fun t ht => o _ t (by omega)) (by rw [o _ _ (by decide)]) (by rw [o _ _ (by decide)]) (by rw [o _ _ (by decide)]; exact I.d) (fun s hs => ?_)
  rw [o _ 16 (by decide)] at hs
  rw [o _ 109 (by decide)]
  refine ⟨(I.u s hs).1, fun k' m' k0 k1 m0 m1 => ?_⟩
  have main : ∀ k : Nat, (k : Int) ≤ V 153 i → pvF V i m nl nh k 108 (ua s k' m') = 0 := fun k => by
    induction k with
    | zero => intro _; exact (I.u s hs).2 k' m' k0 k1 m0 m1
    | succ k ih =>
      intro hk
      have h1 := ih (by omega)
      rw [pvF]
      split
      · rw [jU_o _ (by decide), jU_o _ (by decide)]
        exact h1
      · rename_i q
        have r5 : -1 ≤ V 155 (20 * i + k) ∧ V 155 (20 * i + k) ≤ 99 := R 155 _ rfl
        have h5 := I.2.2.2.2.2.1 i k hi.1 hi.2 (by omega) (by omega)
        have h6 := h7 (V 155 (20 * i + k)) (by omega) h5
        have r8 : 0 ≤ V 128 (V 155 (20 * i + k)) ∧ V 128 (V 155 (20 * i + k)) ≤ 9 := R 128 _ rfl
        unfold prV
        rw [jU_i _ (by unfold ua; omega), jU_o _ (by decide), jU_o _ (by decide), jU_o _ (by decide), jU_o _ (by decide)]
        exact h1
  have r3 : 0 ≤ V 153 i ∧ V 153 i ≤ 20 := R 153 i rfl
  exact main _ (by omega)
theorem pv_bd {i m lo hi : Int} (R : isR V) (ok : pvOk V i m lo hi) : ∀ j : Nat, j < (V 153 i).toNat → (0 ≤ nLo V i m lo j ∧ nLo V i m lo j ≤ 10000) ∧ (0 ≤ nHi V i m hi j ∧ nHi V i m hi j ≤ 10000) := fun j hj => by
  have h := ok j (by omega) (by omega)
  have r6 : 0 ≤ V 156 (5 * (20 * i + j) + m) ∧ V 156 (5 * (20 * i + j) + m) ≤ 10000 := R 156 _ rfl
  have r7 : 0 ≤ V 157 (5 * (20 * i + j) + m) ∧ V 157 (5 * (20 * i + j) + m) ≤ 10000 := R 157 _ rfl
  unfold nLo nHi at *
  omega
end INV2

