/-- contract c in the model's state: its grades gl, of K tests in all -/
def gRep (U : VV) (c : Int) (gl : List Grd) (K : Int) : Prop := U 119 c = (gl.length : Int) ∧ U 122 (13 * c + (gl.length : Int)) = K ∧ ∀ (g : Nat) (x : Grd), gl[g]? = some x → U 122 (13 * c + g + 1) = U 122 (13 * c + g) + (x.1.length : Int) ∧ 0 ≤ U 122 (13 * c + g) ∧ U 122 (13 * c + g + 1) ≤ K ∧ U 121 (12 * c + g) = x.2 ∧ ∀ (i : Nat) (y : Tst), x.1[i]? = some y → U 123 (100 * c + (U 122 (13 * c + g) + i)) = y.1 ∧ U 124 (100 * c + (U 122 (13 * c + g) + i)) = y.2.1 ∧ U 125 (100 * c + (U 122 (13 * c + g) + i)) = y.2.2
def tRep (U : VV) (c K : Int) (l : List Tst) : Prop := ∀ (i : Nat) (y : Tst), l[i]? = some y → U 123 (100 * c + (K + i)) = y.1 ∧ U 124 (100 * c + (K + i)) = y.2.1 ∧ U 125 (100 * c + (K + i)) = y.2.2
/-- the reading goes on at p, k tests read -/
def cS (U V : VV) (c n p k : Int) : Prop := isR U ∧ scc c U V ∧ U 16 12 = n ∧ U 16 13 = p ∧ U 16 14 = -1 ∧ U 16 15 = k ∧ p ≤ n ∧ 4 * k ≤ p ∧ U 120 c = -1
def cB (U V : VV) (c n e : Int) : Prop := isR U ∧ scc c U V ∧ U 16 12 = n ∧ U 16 13 ≤ n ∧ U 16 14 = e ∧ 0 ≤ e
def ctR (β : jB) (V : VV) (c sel dy : Int) (res : Int ⊕ (List Grd × Int)) : Option Value → jM → Prop := fun r h' => match res with
  | .inl e => r = some (.int (jI (-2 - e))) ∧ ∃ U, isR U ∧ scc c U V ∧ h' = jP β U
  | .inr (gl, ep) => r = some (.int (jI c)) ∧ ∃ U K, isR U ∧ scc c U V ∧ gRep U c gl K ∧ U 120 c = ep ∧ h' = jP β (jU (jU (jU U 117 c sel) 118 c dy) 16 11 (c + 1))
def kPay (T : Int → Int) (n : Int) (j : Nat) (gl : List Grd) (l : List Tst) (r : Int ⊕ (Int × Int)) : Int ⊕ (List Grd × Int) := match r with
  | .inl e => .inl e
  | .inr (q, v) => pRest T n j q (gl ++ [(l, v)])
def kTs (T : Int → Int) (n : Int) (j : Nat) (gl : List Grd) (r : Int ⊕ (Int × List Tst)) : Int ⊕ (List Grd × Int) := match r with
  | .inl e => .inl e
  | .inr (q, l) => kPay T n j gl l (pPay T n q)
theorem pRest_g {T : Int → Int} {n p : Int} {j : Nat} {gl : List Grd} (h : wcode T n (sk T n p) = 444300616805) : pRest T n (j + 1) p gl = kTs T n j gl (pTs T n 400 (we T n (sk T n p)) []) := by
  rw [pRest, if_pos h]
  unfold pGr kTs kPay
  cases pTs T n 400 (we T n (sk T n p)) [] with
  | inl e => rfl
  | inr x =>
    simp only
    cases pPay T n x.1 with
    | inl e => rfl
    | inr y => rfl
theorem pRest_n {T : Int → Int} {n p : Int} {j : Nat} {gl : List Grd} (h : wcode T n (sk T n p) ≠ 444300616805) : pRest T n j p gl = pFin T n gl p := by
  cases j with
  | zero => rfl
  | succ j => rw [pRest, if_neg h]
theorem pFin_g {T : Int → Int} {n p : Int} {gl : List Grd} (hp : p ≤ n) (h : wcode T n (sk T n p) = 444300616805) : pFin T n gl p = .inl (sk T n p) := by
  have sb := sk_b (T := T) hp
  have w0 := wcode_0 (T := T) sb.2.1 (by rw [h]; decide)
  unfold pFin
  rw [h, if_neg (by decide), if_neg (by omega)]
theorem scc.T {c : Int} {U V : VV} (h : scc c U V) : U 116 = V 116 := by
  funext i
  refine h 116 i ?_
  rintro (q | q | q | q | q) <;> omega
theorem scc.c {c : Int} {U V : VV} (h : scc c U V) : U 16 11 = V 16 11 := by
  refine h 16 11 ?_
  rintro (q | q | q | q | q) <;> omega
theorem tsV_o {U : VV} {q i : Int} {t : Tst} {r : Nat} (h1 : r ≠ 16) (h2 : r ≠ 123) (h3 : r ≠ 124) (h4 : r ≠ 125) : tsV U q t r i = U r i := by
  unfold tsV
  rw [jU_o _ h1, jU_o _ h4, jU_o _ h3, jU_o _ h2, jU_o _ h1]
theorem tsV_123 {U : VV} {q i : Int} {t : Tst} : tsV U q t 123 i = if i = 100 * U 16 11 + U 16 15 then t.1 else U 123 i := by
  unfold tsV
  rw [jU_o _ (by decide), jU_o _ (by decide), jU_o _ (by decide), jU_at]
  split
  · rfl
  · rw [jU_o _ (by decide)]
theorem tsV_124 {U : VV} {q i : Int} {t : Tst} : tsV U q t 124 i = if i = 100 * U 16 11 + U 16 15 then t.2.1 else U 124 i := by
  unfold tsV
  rw [jU_o _ (by decide), jU_o _ (by decide), jU_at]
  split
  · rfl
  · rw [jU_o _ (by decide), jU_o _ (by decide)]
theorem tsV_125 {U : VV} {q i : Int} {t : Tst} : tsV U q t 125 i = if i = 100 * U 16 11 + U 16 15 then t.2.2 else U 125 i := by
  unfold tsV
  rw [jU_o _ (by decide), jU_at]
  split
  · rfl
  · rw [jU_o _ (by decide), jU_o _ (by decide), jU_o _ (by decide)]
theorem getElem_lt {α : Type} {l : List α} {i : Nat} {y : α} (h : l[i]? = some y) : i < l.length := (List.getElem?_eq_some_iff.mp h).1
theorem gRep.ts {U : VV} {c q K : Int} {t : Tst} {gl : List Grd} (h : gRep U c gl K) (hc : U 16 11 = c) (hk : K ≤ U 16 15) : gRep (tsV U q t) c gl K := by
  refine ⟨by rw [tsV_o (by decide) (by decide) (by decide) (by decide)]; exact h.1, by rw [tsV_o (by decide) (by decide) (by decide) (by decide)]; exact h.2.1, fun g x hx => ?_⟩
  obtain ⟨a1, a2, a3, a4, a5⟩ := h.2.2 g x hx
  rw [tsV_o (by decide) (by decide) (by decide) (by decide), tsV_o (by decide) (by decide) (by decide) (by decide), tsV_o (by decide) (by decide) (by decide) (by decide)]
  refine ⟨a1, a2, a3, a4, fun i y hy => ?_⟩
  have hi := getElem_lt hy
  rw [tsV_123, tsV_124, tsV_125, hc, if_neg (by omega), if_neg (by omega), if_neg (by omega)]
  exact a5 i y hy
theorem tRep.ts {U : VV} {c q K : Int} {t : Tst} {l : List Tst} (h : tRep U c K l) (hc : U 16 11 = c) (hk : U 16 15 = K + l.length) : tRep (tsV U q t) c K (l ++ [t]) := by
  intro i y hy
  rw [tsV_123, tsV_124, tsV_125, hc, hk]
  by_cases e : i < l.length
  · rw [List.getElem?_append_left e] at hy
    rw [if_neg (by omega), if_neg (by omega), if_neg (by omega)]
    exact h i y hy
  · have hi := getElem_lt hy
    simp only [List.length_append, List.length_singleton] at hi
    have e2 : i = l.length := by omega
    subst e2
    rw [List.getElem?_append_right (Nat.le_refl _)] at hy
    simp at hy
    subst hy
    rw [if_pos rfl, if_pos rfl, if_pos rfl]
    exact ⟨rfl, rfl, rfl⟩
theorem cS.ts {U V : VV} {c n p q k : Int} {t : Tst} (h : cS U V c n p k) (hc : U 16 11 = c) (hc2 : 0 ≤ c ∧ c < 20) (hn : n ≤ 400) (hq : p + 4 ≤ q ∧ q ≤ n) (h1 : 0 ≤ t.1 ∧ t.1 ≤ 4) (h2 : t.2.1 = 60 ∨ t.2.1 = 62) (h3 : 0 ≤ t.2.2 ∧ t.2.2 ≤ 99999) : cS (tsV U q t) V c n q (k + 1) := by
  obtain ⟨R, S, a1, a2, a3, a4, a5, a6, a7⟩ := h
  have hf := R.f
  refine ⟨?_, ?_, ?_, ?_, ?_, ?_, hq.2, by omega, by rw [tsV_o (by decide) (by decide) (by decide) (by decide)]; exact a7⟩
  · unfold tsV
    exact ((((R.up (fun _ => by show (0 : Int) ≤ q ∧ q ≤ 400; omega)).up (fun _ => h1)).up (fun _ => by show (0 : Int) ≤ t.2.1 ∧ t.2.1 ≤ 10000; omega)).up (fun _ => h3)).up (fun _ => by show (0 : Int) ≤ U 16 15 + 1 ∧ U 16 15 + 1 ≤ 100; omega)
  · unfold tsV
    have q1 : 100 * c ≤ 100 * U 16 11 + U 16 15 ∧ 100 * U 16 11 + U 16 15 < 100 * c + 100 := by omega
    exact ((((S.up (cSc_16 (by omega))).up (Or.inr (Or.inr (Or.inr (Or.inr ⟨Or.inl rfl, q1⟩))))).up (Or.inr (Or.inr (Or.inr (Or.inr ⟨Or.inr (Or.inl rfl), q1⟩))))).up (Or.inr (Or.inr (Or.inr (Or.inr ⟨Or.inr (Or.inr rfl), q1⟩))))).up (cSc_16 (by omega))
  · exact a1
  · unfold tsV
    rw [jU_i _ (by decide), jU_o _ (by decide), jU_o _ (by decide), jU_o _ (by decide), jU_same]
  · exact a3
  · unfold tsV
    rw [jU_same, a4]
theorem cS.at {U V : VV} {c n p q k : Int} (h : cS U V c n p k) (hn : n ≤ 400) (hq : p ≤ q ∧ q ≤ n) : cS (jU U 16 13 q) V c n q k := by
  obtain ⟨R, S, a1, a2, a3, a4, a5, a6, a7⟩ := h
  have hf := R.f
  exact ⟨R.up (fun _ => by show (0 : Int) ≤ q ∧ q ≤ 400; omega), S.up (cSc_16 (by omega)), a1, jU_same _ _ _ _, a3, a4, hq.2, by omega, a7⟩
theorem gRep.at {U : VV} {c q K : Int} {gl : List Grd} {i : Int} (h : gRep U c gl K) : gRep (jU U 16 i q) c gl K := h
theorem tRep.at {U : VV} {c q K : Int} {l : List Tst} {i : Int} (h : tRep U c K l) : tRep (jU U 16 i q) c K l := h
theorem badS.cB {U W V : VV} {c n e : Int} (h : badS U W c e) (hs : scc c W V) (hn : W 16 12 = n) (h0 : 0 ≤ e) : cB U V c n e := ⟨h.1, h.2.1.trans hs, by rw [h.2.2.1, hn], by rw [← hn]; exact h.2.2.2.1, h.2.2.2.2.1, h0⟩
/-- a grade is written -/
def gwV (U : VV) (c g x : Int) : VV := jU (jU (jU U 121 (12 * c + g) x) 119 c (g + 1)) 122 (13 * c + (g + 1)) (U 16 15)
theorem gwV_R {U : VV} {c g x : Int} (R : isR U) (hg : 0 ≤ g ∧ g < 12) (hx : 0 ≤ x ∧ x ≤ 99999) : isR (gwV U c g x) := by
  have hf := R.f
  exact ((R.up (fun _ => hx)).up (fun _ => by show (0 : Int) ≤ g + 1 ∧ g + 1 ≤ 12; omega)).up (fun _ => by show (0 : Int) ≤ U 16 15 ∧ U 16 15 ≤ 100; omega)
theorem gwV_S {U V : VV} {c g x : Int} (S : scc c U V) (hg : 0 ≤ g ∧ g < 12) : scc c (gwV U c g x) V :=
  ((S.up (Or.inr (Or.inr (Or.inl ⟨rfl, by omega, by omega⟩)))).up (Or.inr (Or.inl ⟨Or.inl rfl, rfl⟩))).up (Or.inr (Or.inr (Or.inr (Or.inl ⟨rfl, by omega, by omega⟩))))
theorem gwV_g {U : VV} {c x K : Int} {gl : List Grd} {l : List Tst} (h : gRep U c gl K) (ht : tRep U c K l) (hk : U 16 15 = K + l.length) (h0 : 0 ≤ K) : gRep (gwV U c gl.length x) c (gl ++ [(l, x)]) (U 16 15) := by
  have o3 : ∀ r i, r ≠ 119 → r ≠ 121 → r ≠ 122 → gwV U c gl.length x r i = U r i := fun r i h1 h2 h3 => by
    unfold gwV
    rw [jU_o _ h3, jU_o _ h1, jU_o _ h2]
  have e22 : ∀ i, gwV U c gl.length x 122 i = if i = 13 * c + ((gl.length : Int) + 1) then U 16 15 else U 122 i := fun i => by
    unfold gwV
    rw [jU_at]
    split
    · rfl
    · rw [jU_o _ (by decide), jU_o _ (by decide)]
  have e21 : ∀ i, gwV U c gl.length x 121 i = if i = 12 * c + (gl.length : Int) then x else U 121 i := fun i => by
    unfold gwV
    rw [jU_o _ (by decide), jU_o _ (by decide), jU_at]
  refine ⟨?_, ?_, fun g y hy => ?_⟩
  · unfold gwV
    rw [jU_o _ (by decide), jU_same]
    simp
  · rw [e22, if_pos (by simp)]
  · have hg := getElem_lt hy
    simp only [List.length_append, List.length_singleton] at hg
    by_cases e : g < gl.length
    · rw [List.getElem?_append_left e] at hy
      obtain ⟨a1, a2, a3, a4, a5⟩ := h.2.2 g y hy
      rw [e22, e22, e21, if_neg (by omega), if_neg (by omega), if_neg (by omega)]
      refine ⟨a1, a2, by omega, a4, fun i z hz => ?_⟩
      rw [o3 _ _ (by decide) (by decide) (by decide), o3 _ _ (by decide) (by decide) (by decide), o3 _ _ (by decide) (by decide) (by decide)]
      exact a5 i z hz
    · have e2 : g = gl.length := by omega
      subst e2
      rw [List.getElem?_append_right (Nat.le_refl _)] at hy
      simp at hy
      subst hy
      rw [e22, e22, e21, if_pos (by omega), if_neg (by omega), if_pos rfl, h.2.1]
      refine ⟨hk, h0, Int.le_refl _, rfl, fun i z hz => ?_⟩
      rw [o3 _ _ (by decide) (by decide) (by decide), o3 _ _ (by decide) (by decide) (by decide), o3 _ _ (by decide) (by decide) (by decide)]
      exact ht i z hz

