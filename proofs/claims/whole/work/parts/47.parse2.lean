theorem wcode_b {T : Int → Int} {n s : Int} (h : s ≤ n) : 0 ≤ wcode T n s ∧ wcode T n s < 1099511627776 := by
  have wb := we_b (T := T) h
  unfold wcode
  split
  · rename_i q
    have b := wc_b (T := T) (p := s) (we T n s - s).toNat (by omega) (fun i hi => wb.2.2.1 (s + i) (by omega) (by omega))
    have p5 : (256 : Int) ^ (we T n s - s).toNat ≤ 256 ^ 5 := by
      rcases (by omega : (we T n s - s).toNat = 0 ∨ (we T n s - s).toNat = 1 ∨ (we T n s - s).toNat = 2 ∨ (we T n s - s).toNat = 3 ∨ (we T n s - s).toNat = 4 ∨ (we T n s - s).toNat = 5) with z | z | z | z | z | z <;> rw [z] <;> decide
    have e5 : (256 : Int) ^ 5 = 1099511627776 := by decide
    omega
  · omega
/-- a code that isn't 0 is of a word -/
theorem wcode_0 {T : Int → Int} {n s : Int} (h : s ≤ n) (hc : wcode T n s ≠ 0) : s < we T n s ∧ we T n s ≤ n ∧ (97 ≤ T s ∧ T s ≤ 122) := by
  have wb := we_b (T := T) h
  rcases (by omega : we T n s = s ∨ s < we T n s) with q | q
  · exfalso
    apply hc
    unfold wcode
    rw [q, if_pos (by omega), show (s - s).toNat = 0 by omega]
    rfl
  · exact ⟨q, wb.2.1, wb.2.2.1 s (by omega) q⟩
abbrev Tst : Type := Int × Int × Int
def mof (w : Int) : Int := if w = 25461 then 0 else if w = 28265 then 1 else if w = 25458 then 2 else if w = 29550 then 3 else if w = 28776 then 4 else -1
theorem mof_b (w : Int) : -1 ≤ mof w ∧ mof w ≤ 4 := by
  unfold mof
  split
  · omega
  · split
    · omega
    · split
      · omega
      · split
        · omega
        · split <;> omega
theorem mof_0 {w : Int} (h : mof w ≠ -1) : w ≠ 0 := fun e => by subst e; exact h rfl
/-- one TEST from p on: where it can't stand, or where it ends and what it says -/
def pTest (T : Int → Int) (n p : Int) : Int ⊕ (Int × Tst) :=
  if mof (wcode T n (sk T n p)) = -1 then .inl (sk T n p)
  else if ¬ (sk T n (we T n (sk T n p)) < n ∧ (T (sk T n (we T n (sk T n p))) = 60 ∨ T (sk T n (we T n (sk T n p))) = 62)) then .inl (sk T n (we T n (sk T n p)))
  else if (numN T n 5 (sk T n (sk T n (we T n (sk T n p)) + 1)) 0).1 = sk T n (sk T n (we T n (sk T n p)) + 1) then .inl (sk T n (sk T n (we T n (sk T n p)) + 1))
  else .inr ((numN T n 5 (sk T n (sk T n (we T n (sk T n p)) + 1)) 0).1, mof (wcode T n (sk T n p)), T (sk T n (we T n (sk T n p))), (numN T n 5 (sk T n (sk T n (we T n (sk T n p)) + 1)) 0).2)
def pTs (T : Int → Int) (n : Int) : Nat → Int → List Tst → Int ⊕ (Int × List Tst)
  | 0, p, _ => .inl p
  | k + 1, p, acc => match pTest T n p with
    | .inl e => .inl e
    | .inr (q, t) => if sk T n q < n ∧ T (sk T n q) = 44 then pTs T n k (sk T n q + 1) (acc ++ [t]) else .inr (sk T n q, acc ++ [t])
def pPay (T : Int → Int) (n p : Int) : Int ⊕ (Int × Int) :=
  if wcode T n (sk T n p) ≠ 7364985 then .inl (sk T n p)
  else if (numN T n 5 (sk T n (we T n (sk T n p))) 0).1 = sk T n (we T n (sk T n p)) then .inl (sk T n (we T n (sk T n p)))
  else if sk T n (numN T n 5 (sk T n (we T n (sk T n p))) 0).1 < n ∧ T (sk T n (numN T n 5 (sk T n (we T n (sk T n p))) 0).1) = 59 then .inr (sk T n (numN T n 5 (sk T n (we T n (sk T n p))) 0).1 + 1, (numN T n 5 (sk T n (we T n (sk T n p))) 0).2)
  else .inl (sk T n (numN T n 5 (sk T n (we T n (sk T n p))) 0).1)
abbrev Grd : Type := List Tst × Int
def pGr (T : Int → Int) (n p : Int) : Int ⊕ (Int × Grd) := match pTs T n 400 p [] with
  | .inl e => .inl e
  | .inr (q, l) => match pPay T n q with
    | .inl e => .inl e
    | .inr (q', v) => .inr (q', l, v)
/-- the end of a text whose grades are gl, from q on -/
def pFin (T : Int → Int) (n : Int) (gl : List Grd) (q : Int) : Int ⊕ (List Grd × Int) :=
  if wcode T n (sk T n q) = 1701606245 then (match pPay T n (we T n (sk T n q)) with
    | .inl e => .inl e
    | .inr (q', v) => if sk T n q' = n then .inr (gl, v) else .inl (sk T n q'))
  else if sk T n q = n then .inr (gl, -1) else .inl (sk T n q)
def pRest (T : Int → Int) (n : Int) : Nat → Int → List Grd → Int ⊕ (List Grd × Int)
  | 0, p, gl => pFin T n gl p
  | j + 1, p, gl => if wcode T n (sk T n p) = 444300616805 then (match pGr T n (we T n (sk T n p)) with
    | .inl e => .inl e
    | .inr (q, g) => pRest T n j q (gl ++ [g])) else pFin T n gl p
def pAll (T : Int → Int) (n : Int) : Int ⊕ (List Grd × Int) := pRest T n 12 0 []
/-- what the reading of contract c may write -/
def cSc (c : Int) (t : Nat) (i : Int) : Prop := (t = 16 ∧ 12 ≤ i ∧ i ≤ 15) ∨ ((t = 119 ∨ t = 120) ∧ i = c) ∨ (t = 121 ∧ 12 * c ≤ i ∧ i < 12 * c + 12) ∨ (t = 122 ∧ 13 * c ≤ i ∧ i < 13 * c + 13) ∨ ((t = 123 ∨ t = 124 ∨ t = 125) ∧ 100 * c ≤ i ∧ i < 100 * c + 100)
def scc (c : Int) (U V : VV) : Prop := ∀ t i, ¬ cSc c t i → U t i = V t i
theorem scc.rf {c : Int} {V : VV} : scc c V V := fun _ _ _ => rfl
theorem scc.trans {c : Int} {U V W : VV} (h1 : scc c U V) (h2 : scc c V W) : scc c U W := fun t i h => (h1 t i h).trans (h2 t i h)
theorem scc.up {c : Int} {U V : VV} {t : Nat} {i x : Int} (h : scc c U V) (hc : cSc c t i) : scc c (jU U t i x) V := fun t' i' h' => by
  unfold jU
  split
  · rename_i q
    rw [q.1, q.2] at h'
    exact absurd hc h'
  · exact h t' i' h'
theorem cSc_16 {c i : Int} (h : 12 ≤ i ∧ i ≤ 15) : cSc c 16 i := Or.inl ⟨rfl, h⟩
/-- the text is none, from e on -/
def badS (U V : VV) (c e : Int) : Prop := isR U ∧ scc c U V ∧ U 16 12 = V 16 12 ∧ U 16 13 ≤ V 16 12 ∧ U 16 14 = e ∧ ∀ i, U 119 i = V 119 i
section M19
variable {γ : jG} {β : jB} {V : VV}
theorem cm_metalOf {w : Int} {h : jM} (hw : 0 ≤ w ∧ w < 1099511627776) : CT γ mX12_metalOf 0 0 0 [.long (jL w)] h (fun r h' => r = some (.int (jI (mof w))) ∧ h' = h) X0 := by
  refine CT.of MX12_metalOf (Nat.le_of_ble_eq_true rfl) ?_
  show J γ mX12_metalOf 0 0 0 0 0 h 0 [(0, .long (jL w))] [] _ _
  have lc : ∀ x y : Int, (if y < x then (1 : Int) else if x = y then 0 else -1) = 0 ↔ x = y := fun x y => by
    split
    · omega
    · split <;> omega
  have lr : ∀ x y : Int, r32 (if y < x then (1 : Int) else if x = y then 0 else -1) := fun x y => by
    split
    · decide
    · split <;> decide
  refine J.lload_n (pc' := 1) rfl rfl rfl ?_
  refine J.ldc2 (pc' := 4) (z := 25461) (v := 25461) rfl (List.mem_of_getElem? (i := 1706) (by decide +kernel)) (by decide) rfl ?_
  refine J.lcmp (pc' := 5) rfl rfl (by first | omega | (exact R.r _ _) | (simp only [jM.len_sI, jM.len_sL, jM.len_sR, jM.len_fI, jM.len_fL, jM.len_fR]; omega) | (simp [jM.len_nw, jM.len_sI, jM.len_sL, jM.len_sR, jM.len_fI, jM.len_fL, jM.len_fR, *]; omega)) (by first | omega | (exact R.r _ _) | (simp only [jM.len_sI, jM.len_sL, jM.len_sR, jM.len_fI, jM.len_fL, jM.len_fR]; omega) | (simp [jM.len_nw, jM.len_sI, jM.len_sL, jM.len_sR, jM.len_fI, jM.len_fL, jM.len_fR, *]; omega)) ?_
  refine J.if_ne (tgt := 12) (pc' := 8) rfl rfl rfl (lr _ _) (fun c1 => ?_) (fun c1 => ?_)
  · replace c1 := mt (lc _ _).mpr c1
    refine J.lload_n (pc' := 13) rfl rfl rfl ?_
    refine J.ldc2 (pc' := 16) (z := 28265) (v := 28265) rfl (List.mem_of_getElem? (i := 1707) (by decide +kernel)) (by decide) rfl ?_
    refine J.lcmp (pc' := 17) rfl rfl (by first | omega | (exact R.r _ _) | (simp only [jM.len_sI, jM.len_sL, jM.len_sR, jM.len_fI, jM.len_fL, jM.len_fR]; omega) | (simp [jM.len_nw, jM.len_sI, jM.len_sL, jM.len_sR, jM.len_fI, jM.len_fL, jM.len_fR, *]; omega)) (by first | omega | (exact R.r _ _) | (simp only [jM.len_sI, jM.len_sL, jM.len_sR, jM.len_fI, jM.len_fL, jM.len_fR]; omega) | (simp [jM.len_nw, jM.len_sI, jM.len_sL, jM.len_sR, jM.len_fI, jM.len_fL, jM.len_fR, *]; omega)) ?_
    refine J.if_ne (tgt := 24) (pc' := 20) rfl rfl rfl (lr _ _) (fun c2 => ?_) (fun c2 => ?_)
    · replace c2 := mt (lc _ _).mpr c2
      refine J.lload_n (pc' := 25) rfl rfl rfl ?_
      refine J.ldc2 (pc' := 28) (z := 25458) (v := 25458) rfl (List.mem_of_getElem? (i := 1708) (by decide +kernel)) (by decide) rfl ?_
      refine J.lcmp (pc' := 29) rfl rfl (by first | omega | (exact R.r _ _) | (simp only [jM.len_sI, jM.len_sL, jM.len_sR, jM.len_fI, jM.len_fL, jM.len_fR]; omega) | (simp [jM.len_nw, jM.len_sI, jM.len_sL, jM.len_sR, jM.len_fI, jM.len_fL, jM.len_fR, *]; omega)) (by first | omega | (exact R.r _ _) | (simp only [jM.len_sI, jM.len_sL, jM.len_sR, jM.len_fI, jM.len_fL, jM.len_fR]; omega) | (simp [jM.len_nw, jM.len_sI, jM.len_sL, jM.len_sR, jM.len_fI, jM.len_fL, jM.len_fR, *]; omega)) ?_
      refine J.if_ne (tgt := 36) (pc' := 32) rfl rfl rfl (lr _ _) (fun c3 => ?_) (fun c3 => ?_)
      · replace c3 := mt (lc _ _).mpr c3
        refine J.lload_n (pc' := 37) rfl rfl rfl ?_
        refine J.ldc2 (pc' := 40) (z := 29550) (v := 29550) rfl (List.mem_of_getElem? (i := 1709) (by decide +kernel)) (by decide) rfl ?_
        refine J.lcmp (pc' := 41) rfl rfl (by first | omega | (exact R.r _ _) | (simp only [jM.len_sI, jM.len_sL, jM.len_sR, jM.len_fI, jM.len_fL, jM.len_fR]; omega) | (simp [jM.len_nw, jM.len_sI, jM.len_sL, jM.len_sR, jM.len_fI, jM.len_fL, jM.len_fR, *]; omega)) (by first | omega | (exact R.r _ _) | (simp only [jM.len_sI, jM.len_sL, jM.len_sR, jM.len_fI, jM.len_fL, jM.len_fR]; omega) | (simp [jM.len_nw, jM.len_sI, jM.len_sL, jM.len_sR, jM.len_fI, jM.len_fL, jM.len_fR, *]; omega)) ?_
        refine J.if_ne (tgt := 48) (pc' := 44) rfl rfl rfl (lr _ _) (fun c4 => ?_) (fun c4 => ?_)
        · replace c4 := mt (lc _ _).mpr c4
          refine J.lload_n (pc' := 49) rfl rfl rfl ?_
          refine J.ldc2 (pc' := 52) (z := 28776) (v := 28776) rfl (List.mem_of_getElem? (i := 1710) (by decide +kernel)) (by decide) rfl ?_
          refine J.lcmp (pc' := 53) rfl rfl (by first | omega | (exact R.r _ _) | (simp only [jM.len_sI, jM.len_sL, jM.len_sR, jM.len_fI, jM.len_fL, jM.len_fR]; omega) | (simp [jM.len_nw, jM.len_sI, jM.len_sL, jM.len_sR, jM.len_fI, jM.len_fL, jM.len_fR, *]; omega)) (by first | omega | (exact R.r _ _) | (simp only [jM.len_sI, jM.len_sL, jM.len_sR, jM.len_fI, jM.len_fL, jM.len_fR]; omega) | (simp [jM.len_nw, jM.len_sI, jM.len_sL, jM.len_sR, jM.len_fI, jM.len_fL, jM.len_fR, *]; omega)) ?_
          refine J.if_ne (tgt := 60) (pc' := 56) rfl rfl rfl (lr _ _) (fun c5 => ?_) (fun c5 => ?_)
          · replace c5 := mt (lc _ _).mpr c5
            refine J.iconst (pc' := 61) rfl rfl ?_
            refine J.iret rfl rfl (by first | omega | (exact R.r _ _) | (simp only [jM.len_sI, jM.len_sL, jM.len_sR, jM.len_fI, jM.len_fL, jM.len_fR]; omega) | (simp [jM.len_nw, jM.len_sI, jM.len_sL, jM.len_sR, jM.len_fI, jM.len_fL, jM.len_fR, *]; omega)) (by first | omega | (exact R.r _ _) | (simp only [jM.len_sI, jM.len_sL, jM.len_sR, jM.len_fI, jM.len_fL, jM.len_fR]; omega) | (simp [jM.len_nw, jM.len_sI, jM.len_sL, jM.len_sR, jM.len_fI, jM.len_fL, jM.len_fR, *]; omega)) ?_
            exact ⟨by unfold mof; rw [if_neg c1, if_neg c2, if_neg c3, if_neg c4, if_neg c5], rfl⟩
          · replace c5 := (lc _ _).mp c5
            refine J.iconst (pc' := 57) rfl rfl ?_
            refine J.goto (tgt := 61) rfl rfl ?_
            refine J.iret rfl rfl (by first | omega | (exact R.r _ _) | (simp only [jM.len_sI, jM.len_sL, jM.len_sR, jM.len_fI, jM.len_fL, jM.len_fR]; omega) | (simp [jM.len_nw, jM.len_sI, jM.len_sL, jM.len_sR, jM.len_fI, jM.len_fL, jM.len_fR, *]; omega)) (by first | omega | (exact R.r _ _) | (simp only [jM.len_sI, jM.len_sL, jM.len_sR, jM.len_fI, jM.len_fL, jM.len_fR]; omega) | (simp [jM.len_nw, jM.len_sI, jM.len_sL, jM.len_sR, jM.len_fI, jM.len_fL, jM.len_fR, *]; omega)) ?_
            exact ⟨by unfold mof; rw [if_neg c1, if_neg c2, if_neg c3, if_neg c4, if_pos c5], rfl⟩
        · replace c4 := (lc _ _).mp c4
          refine J.iconst (pc' := 45) rfl rfl ?_
          refine J.goto (tgt := 61) rfl rfl ?_
          refine J.iret rfl rfl (by first | omega | (exact R.r _ _) | (simp only [jM.len_sI, jM.len_sL, jM.len_sR, jM.len_fI, jM.len_fL, jM.len_fR]; omega) | (simp [jM.len_nw, jM.len_sI, jM.len_sL, jM.len_sR, jM.len_fI, jM.len_fL, jM.len_fR, *]; omega)) (by first | omega | (exact R.r _ _) | (simp only [jM.len_sI, jM.len_sL, jM.len_sR, jM.len_fI, jM.len_fL, jM.len_fR]; omega) | (simp [jM.len_nw, jM.len_sI, jM.len_sL, jM.len_sR, jM.len_fI, jM.len_fL, jM.len_fR, *]; omega)) ?_
          exact ⟨by unfold mof; rw [if_neg c1, if_neg c2, if_neg c3, if_pos c4], rfl⟩
      · replace c3 := (lc _ _).mp c3
        refine J.iconst (pc' := 33) rfl rfl ?_
        refine J.goto (tgt := 61) rfl rfl ?_
        refine J.iret rfl rfl (by first | omega | (exact R.r _ _) | (simp only [jM.len_sI, jM.len_sL, jM.len_sR, jM.len_fI, jM.len_fL, jM.len_fR]; omega) | (simp [jM.len_nw, jM.len_sI, jM.len_sL, jM.len_sR, jM.len_fI, jM.len_fL, jM.len_fR, *]; omega)) (by first | omega | (exact R.r _ _) | (simp only [jM.len_sI, jM.len_sL, jM.len_sR, jM.len_fI, jM.len_fL, jM.len_fR]; omega) | (simp [jM.len_nw, jM.len_sI, jM.len_sL, jM.len_sR, jM.len_fI, jM.len_fL, jM.len_fR, *]; omega)) ?_
        exact ⟨by unfold mof; rw [if_neg c1, if_neg c2, if_pos c3], rfl⟩
    · replace c2 := (lc _ _).mp c2
      refine J.iconst (pc' := 21) rfl rfl ?_
      refine J.goto (tgt := 61) rfl rfl ?_
      refine J.iret rfl rfl (by first | omega | (exact R.r _ _) | (simp only [jM.len_sI, jM.len_sL, jM.len_sR, jM.len_fI, jM.len_fL, jM.len_fR]; omega) | (simp [jM.len_nw, jM.len_sI, jM.len_sL, jM.len_sR, jM.len_fI, jM.len_fL, jM.len_fR, *]; omega)) (by first | omega | (exact R.r _ _) | (simp only [jM.len_sI, jM.len_sL, jM.len_sR, jM.len_fI, jM.len_fL, jM.len_fR]; omega) | (simp [jM.len_nw, jM.len_sI, jM.len_sL, jM.len_sR, jM.len_fI, jM.len_fL, jM.len_fR, *]; omega)) ?_
      exact ⟨by unfold mof; rw [if_neg c1, if_pos c2], rfl⟩
  · replace c1 := (lc _ _).mp c1
    refine J.iconst (pc' := 9) rfl rfl ?_
    refine J.goto (tgt := 61) rfl rfl ?_
    refine J.iret rfl rfl (by first | omega | (exact R.r _ _) | (simp only [jM.len_sI, jM.len_sL, jM.len_sR, jM.len_fI, jM.len_fL, jM.len_fR]; omega) | (simp [jM.len_nw, jM.len_sI, jM.len_sL, jM.len_sR, jM.len_fI, jM.len_fL, jM.len_fR, *]; omega)) (by first | omega | (exact R.r _ _) | (simp only [jM.len_sI, jM.len_sL, jM.len_sR, jM.len_fI, jM.len_fL, jM.len_fR]; omega) | (simp [jM.len_nw, jM.len_sI, jM.len_sL, jM.len_sR, jM.len_fI, jM.len_fL, jM.len_fR, *]; omega)) ?_
    exact ⟨by unfold mof; rw [if_pos c1], rfl⟩
theorem lc0 (x y : Int) : (if y < x then (1 : Int) else if x = y then 0 else -1) = 0 ↔ x = y := by
  split
  · omega
  · split <;> omega
theorem lcr (x y : Int) : r32 (if y < x then (1 : Int) else if x = y then 0 else -1) := by
  split
  · decide
  · split <;> decide
theorem cm_needWord {w : Int} (B : isB β) (R : isR V) (hp : V 16 13 ≤ V 16 12) (hb : V 16 14 = -1) (hw : 0 ≤ w ∧ w < 1099511627776) : CT γ mX12_needWord 2 0 0 [.ref (β.2 16), .long (jL w)] (jP β V) (fun r h' => r = none ∧ h' = jP β (if wcode (V 116) (V 16 12) (sk (V 116) (V 16 12) (V 16 13)) = w then jU V 16 13 (we (V 116) (V 16 12) (sk (V 116) (V 16 12) (V 16 13))) else jU (jU V 16 13 (sk (V 116) (V 16 12) (V 16 13))) 16 14 (sk (V 116) (V 16 12) (V 16 13)))) X0 := by
  have hf := R.f
  have sb := sk_b (T := V 116) hp
  have wb := wcode_b (T := V 116) sb.2.1
  refine CT.of MX12_needWord (Nat.le_of_ble_eq_true rfl) ?_
  show J γ mX12_needWord 2 0 0 0 0 (jP β V) 0 [(0, .ref (β.2 16)), (1, .long (jL w))] [] _ _
  first | refine J.aload_n (pc' := 1) rfl rfl rfl ?_ | refine J.aload_nN (pc' := 1) rfl rfl rfl ?_
  refine J.callV (pc' := 4) (t := 16) rfl MX12_word ml_X12_204 iv_X12_word (by decide) ⟨_, rfl, rfl⟩ B.1 (cm_word B R hp) rfl rfl (Nat.le_of_ble_eq_true rfl) (by first | omega | (exact R.r _ _) | (simp only [jM.len_sI, jM.len_sL, jM.len_sR, jM.len_fI, jM.len_fL, jM.len_fR]; omega) | (simp [jM.len_nw, jM.len_sI, jM.len_sL, jM.len_sR, jM.len_fI, jM.len_fL, jM.len_fR, *]; omega)) (by first | omega | (exact R.r _ _) | (simp only [jM.len_sI, jM.len_sL, jM.len_sR, jM.len_fI, jM.len_fL, jM.len_fR]; omega) | (simp [jM.len_nw, jM.len_sI, jM.len_sL, jM.len_sR, jM.len_fI, jM.len_fL, jM.len_fR, *]; omega)) (by first | omega | (exact R.r _ _) | (simp only [jM.len_sI, jM.len_sL, jM.len_sR, jM.len_fI, jM.len_fL, jM.len_fR]; omega) | (simp [jM.len_nw, jM.len_sI, jM.len_sL, jM.len_sR, jM.len_fI, jM.len_fL, jM.len_fR, *]; omega)) rfl rfl ?_ ?_
  · exact fun _ _ h => h
  rintro _ _ ⟨rfl, rfl⟩
  generalize hs : sk (V 116) (V 16 12) (V 16 13) = s at sb wb ⊢
  have R1 : isR (jU V 16 13 s) := R.up (fun _ => by show (0 : Int) ≤ s ∧ s ≤ 400; omega)
  have b1 : (jU V 16 13 s) 16 14 = -1 := hb
  refine J.lload_n (pc' := 5) rfl rfl rfl ?_
  refine J.lcmp (pc' := 6) rfl rfl (by first | omega | (exact R.r _ _) | (simp only [jM.len_sI, jM.len_sL, jM.len_sR, jM.len_fI, jM.len_fL, jM.len_fR]; omega) | (simp [jM.len_nw, jM.len_sI, jM.len_sL, jM.len_sR, jM.len_fI, jM.len_fL, jM.len_fR, *]; omega)) (by first | omega | (exact R.r _ _) | (simp only [jM.len_sI, jM.len_sL, jM.len_sR, jM.len_fI, jM.len_fL, jM.len_fR]; omega) | (simp [jM.len_nw, jM.len_sI, jM.len_sL, jM.len_sR, jM.len_fI, jM.len_fL, jM.len_fR, *]; omega)) ?_
  refine J.if_eq (tgt := 17) (pc' := 9) rfl rfl rfl (lcr _ _) (fun c1 => ?_) (fun c1 => ?_)
  · rw [lc0] at c1
    rw [if_pos c1]
    first | refine J.aload_n (pc' := 18) rfl rfl rfl ?_ | refine J.aload_nN (pc' := 18) rfl rfl rfl ?_
    refine J.callV (pc' := 21) (t := 16) rfl MX12_fine ml_X12_212 iv_X12_fine (by decide) ⟨_, rfl, rfl⟩ B.1 (cm_fine B R1) rfl rfl (Nat.le_of_ble_eq_true rfl) (by first | omega | (exact R.r _ _) | (simp only [jM.len_sI, jM.len_sL, jM.len_sR, jM.len_fI, jM.len_fL, jM.len_fR]; omega) | (simp [jM.len_nw, jM.len_sI, jM.len_sL, jM.len_sR, jM.len_fI, jM.len_fL, jM.len_fR, *]; omega)) (by first | omega | (exact R.r _ _) | (simp only [jM.len_sI, jM.len_sL, jM.len_sR, jM.len_fI, jM.len_fL, jM.len_fR]; omega) | (simp [jM.len_nw, jM.len_sI, jM.len_sL, jM.len_sR, jM.len_fI, jM.len_fL, jM.len_fR, *]; omega)) (by first | omega | (exact R.r _ _) | (simp only [jM.len_sI, jM.len_sL, jM.len_sR, jM.len_fI, jM.len_fL, jM.len_fR]; omega) | (simp [jM.len_nw, jM.len_sI, jM.len_sL, jM.len_sR, jM.len_fI, jM.len_fL, jM.len_fR, *]; omega)) rfl rfl ?_ ?_
    · exact fun _ _ h => h
    rintro _ _ ⟨rfl, rfl⟩
    rw [if_pos b1]
    refine J.if_eq (tgt := 28) (pc' := 24) rfl rfl rfl (by first | omega | (exact R.r _ _) | (simp only [jM.len_sI, jM.len_sL, jM.len_sR, jM.len_fI, jM.len_fL, jM.len_fR]; omega) | (simp [jM.len_nw, jM.len_sI, jM.len_sL, jM.len_sR, jM.len_fI, jM.len_fL, jM.len_fR, *]; omega)) (fun c2 => ?_) (fun c2 => ?_)
    · omega
    · first | refine J.aload_n (pc' := 25) rfl rfl rfl ?_ | refine J.aload_nN (pc' := 25) rfl rfl rfl ?_
      refine J.callV (pc' := 28) (t := 16) rfl MX12_pass ml_X12_216 iv_X12_pass (by decide) ⟨_, rfl, rfl⟩ B.1 (cm_pass B R1 (by rw [jU_same]; exact sb.2.1)) rfl rfl (Nat.le_of_ble_eq_true rfl) (by first | omega | (exact R.r _ _) | (simp only [jM.len_sI, jM.len_sL, jM.len_sR, jM.len_fI, jM.len_fL, jM.len_fR]; omega) | (simp [jM.len_nw, jM.len_sI, jM.len_sL, jM.len_sR, jM.len_fI, jM.len_fL, jM.len_fR, *]; omega)) (by first | omega | (exact R.r _ _) | (simp only [jM.len_sI, jM.len_sL, jM.len_sR, jM.len_fI, jM.len_fL, jM.len_fR]; omega) | (simp [jM.len_nw, jM.len_sI, jM.len_sL, jM.len_sR, jM.len_fI, jM.len_fL, jM.len_fR, *]; omega)) (by first | omega | (exact R.r _ _) | (simp only [jM.len_sI, jM.len_sL, jM.len_sR, jM.len_fI, jM.len_fL, jM.len_fR]; omega) | (simp [jM.len_nw, jM.len_sI, jM.len_sL, jM.len_sR, jM.len_fI, jM.len_fL, jM.len_fR, *]; omega)) rfl rfl ?_ ?_
      · exact fun _ _ h => h
      rintro _ _ ⟨rfl, rfl⟩
      refine J.vret rfl rfl (by first | omega | (exact R.r _ _) | (simp only [jM.len_sI, jM.len_sL, jM.len_sR, jM.len_fI, jM.len_fL, jM.len_fR]; omega) | (simp [jM.len_nw, jM.len_sI, jM.len_sL, jM.len_sR, jM.len_fI, jM.len_fL, jM.len_fR, *]; omega)) (by first | omega | (exact R.r _ _) | (simp only [jM.len_sI, jM.len_sL, jM.len_sR, jM.len_fI, jM.len_fL, jM.len_fR]; omega) | (simp [jM.len_nw, jM.len_sI, jM.len_sL, jM.len_sR, jM.len_fI, jM.len_fL, jM.len_fR, *]; omega)) ?_
      refine ⟨rfl, ?_⟩
      rw [jU_jU, jU_same]
      rfl
  · rw [lc0] at c1
    rw [if_neg c1]
    first | refine J.aload_n (pc' := 10) rfl rfl rfl ?_ | refine J.aload_nN (pc' := 10) rfl rfl rfl ?_
    first | refine J.aload_n (pc' := 11) rfl rfl rfl ?_ | refine J.aload_nN (pc' := 11) rfl rfl rfl ?_
    refine J.mgI (pc' := 14) (j := 13) B rfl fl_X12_191 rfl rfl rfl ?_
    rw [jU_same]
    refine J.callV (pc' := 17) (t := 16) rfl MX12_wrong ml_X12_208 iv_X12_wrong (by decide) ⟨_, rfl, rfl⟩ B.1 (cm_wrong B R1) rfl rfl (Nat.le_of_ble_eq_true rfl) (by first | omega | (exact R.r _ _) | (simp only [jM.len_sI, jM.len_sL, jM.len_sR, jM.len_fI, jM.len_fL, jM.len_fR]; omega) | (simp [jM.len_nw, jM.len_sI, jM.len_sL, jM.len_sR, jM.len_fI, jM.len_fL, jM.len_fR, *]; omega)) (by first | omega | (exact R.r _ _) | (simp only [jM.len_sI, jM.len_sL, jM.len_sR, jM.len_fI, jM.len_fL, jM.len_fR]; omega) | (simp [jM.len_nw, jM.len_sI, jM.len_sL, jM.len_sR, jM.len_fI, jM.len_fL, jM.len_fR, *]; omega)) (by first | omega | (exact R.r _ _) | (simp only [jM.len_sI, jM.len_sL, jM.len_sR, jM.len_fI, jM.len_fL, jM.len_fR]; omega) | (simp [jM.len_nw, jM.len_sI, jM.len_sL, jM.len_sR, jM.len_fI, jM.len_fL, jM.len_fR, *]; omega)) rfl rfl ?_ ?_
    · exact fun _ _ h => h
    rintro _ _ ⟨rfl, rfl⟩
    rw [if_pos b1]
    first | refine J.aload_n (pc' := 18) rfl rfl rfl ?_ | refine J.aload_nN (pc' := 18) rfl rfl rfl ?_
    refine J.callV (pc' := 21) (t := 16) rfl MX12_fine ml_X12_212 iv_X12_fine (by decide) ⟨_, rfl, rfl⟩ B.1 (cm_fine B (R1.up (t := 16) (i := 14) (x := s) (fun _ => by show (-1 : Int) ≤ s ∧ s ≤ 400; omega))) rfl rfl (Nat.le_of_ble_eq_true rfl) (by first | omega | (exact R.r _ _) | (simp only [jM.len_sI, jM.len_sL, jM.len_sR, jM.len_fI, jM.len_fL, jM.len_fR]; omega) | (simp [jM.len_nw, jM.len_sI, jM.len_sL, jM.len_sR, jM.len_fI, jM.len_fL, jM.len_fR, *]; omega)) (by first | omega | (exact R.r _ _) | (simp only [jM.len_sI, jM.len_sL, jM.len_sR, jM.len_fI, jM.len_fL, jM.len_fR]; omega) | (simp [jM.len_nw, jM.len_sI, jM.len_sL, jM.len_sR, jM.len_fI, jM.len_fL, jM.len_fR, *]; omega)) (by first | omega | (exact R.r _ _) | (simp only [jM.len_sI, jM.len_sL, jM.len_sR, jM.len_fI, jM.len_fL, jM.len_fR]; omega) | (simp [jM.len_nw, jM.len_sI, jM.len_sL, jM.len_sR, jM.len_fI, jM.len_fL, jM.len_fR, *]; omega)) rfl rfl ?_ ?_
    · exact fun _ _ h => h
    rintro _ _ ⟨rfl, rfl⟩
    rw [jU_same, if_neg (by omega)]
    refine J.if_eq (tgt := 28) (pc' := 24) rfl rfl rfl (by first | omega | (exact R.r _ _) | (simp only [jM.len_sI, jM.len_sL, jM.len_sR, jM.len_fI, jM.len_fL, jM.len_fR]; omega) | (simp [jM.len_nw, jM.len_sI, jM.len_sL, jM.len_sR, jM.len_fI, jM.len_fL, jM.len_fR, *]; omega)) (fun c2 => ?_) (fun c2 => ?_)
    · refine J.vret rfl rfl (by first | omega | (exact R.r _ _) | (simp only [jM.len_sI, jM.len_sL, jM.len_sR, jM.len_fI, jM.len_fL, jM.len_fR]; omega) | (simp [jM.len_nw, jM.len_sI, jM.len_sL, jM.len_sR, jM.len_fI, jM.len_fL, jM.len_fR, *]; omega)) (by first | omega | (exact R.r _ _) | (simp only [jM.len_sI, jM.len_sL, jM.len_sR, jM.len_fI, jM.len_fL, jM.len_fR]; omega) | (simp [jM.len_nw, jM.len_sI, jM.len_sL, jM.len_sR, jM.len_fI, jM.len_fL, jM.len_fR, *]; omega)) ?_
      exact ⟨rfl, rfl⟩
    · omega
theorem cm_need {c : Int} (B : isB β) (R : isR V) (hp : V 16 13 ≤ V 16 12) (hb : V 16 14 = -1) (hc : 0 < c ∧ c < 256) : CT γ mX12_need 1 0 0 [.ref (β.2 16), .int (jI c)] (jP β V) (fun r h' => r = none ∧ h' = jP β (if sk (V 116) (V 16 12) (V 16 13) < V 16 12 ∧ V 116 (sk (V 116) (V 16 12) (V 16 13)) = c then jU V 16 13 (sk (V 116) (V 16 12) (V 16 13) + 1) else jU (jU V 16 13 (sk (V 116) (V 16 12) (V 16 13))) 16 14 (sk (V 116) (V 16 12) (V 16 13)))) X0 := by
  have hf := R.f
  have sb := sk_b (T := V 116) hp
  refine CT.of MX12_need (Nat.le_of_ble_eq_true rfl) ?_
  show J γ mX12_need 1 0 0 0 0 (jP β V) 0 [(0, .ref (β.2 16)), (1, .int (jI c))] [] _ _
  first | refine J.aload_n (pc' := 1) rfl rfl rfl ?_ | refine J.aload_nN (pc' := 1) rfl rfl rfl ?_
  refine J.callV (pc' := 4) (t := 16) rfl MX12_here ml_X12_197 iv_X12_here (by decide) ⟨_, rfl, rfl⟩ B.1 (cm_here B R hp) rfl rfl (Nat.le_of_ble_eq_true rfl) (by first | omega | (exact R.r _ _) | (simp only [jM.len_sI, jM.len_sL, jM.len_sR, jM.len_fI, jM.len_fL, jM.len_fR]; omega) | (simp [jM.len_nw, jM.len_sI, jM.len_sL, jM.len_sR, jM.len_fI, jM.len_fL, jM.len_fR, *]; omega)) (by first | omega | (exact R.r _ _) | (simp only [jM.len_sI, jM.len_sL, jM.len_sR, jM.len_fI, jM.len_fL, jM.len_fR]; omega) | (simp [jM.len_nw, jM.len_sI, jM.len_sL, jM.len_sR, jM.len_fI, jM.len_fL, jM.len_fR, *]; omega)) (by first | omega | (exact R.r _ _) | (simp only [jM.len_sI, jM.len_sL, jM.len_sR, jM.len_fI, jM.len_fL, jM.len_fR]; omega) | (simp [jM.len_nw, jM.len_sI, jM.len_sL, jM.len_sR, jM.len_fI, jM.len_fL, jM.len_fR, *]; omega)) rfl rfl ?_ ?_
  · exact fun _ _ h => h
  rintro _ _ ⟨rfl, rfl⟩
  generalize hs : sk (V 116) (V 16 12) (V 16 13) = s at sb ⊢
  have R1 : isR (jU V 16 13 s) := R.up (fun _ => by show (0 : Int) ≤ s ∧ s ≤ 400; omega)
  have b1 : (jU V 16 13 s) 16 14 = -1 := hb
  have rT := R.s 116 s
  have hvb : r32 (hv (V 116) (V 16 12) s) := by unfold hv; split <;> omega
  refine J.iload_n (pc' := 5) rfl rfl rfl ?_
  refine J.icmp_eq (tgt := 16) (pc' := 8) rfl rfl rfl (by first | omega | (exact R.r _ _) | (simp only [jM.len_sI, jM.len_sL, jM.len_sR, jM.len_fI, jM.len_fL, jM.len_fR]; omega) | (simp [jM.len_nw, jM.len_sI, jM.len_sL, jM.len_sR, jM.len_fI, jM.len_fL, jM.len_fR, *]; omega)) (by first | omega | (exact R.r _ _) | (simp only [jM.len_sI, jM.len_sL, jM.len_sR, jM.len_fI, jM.len_fL, jM.len_fR]; omega) | (simp [jM.len_nw, jM.len_sI, jM.len_sL, jM.len_sR, jM.len_fI, jM.len_fL, jM.len_fR, *]; omega)) (fun c1 => ?_) (fun c1 => ?_)
  · have c1' : s < V 16 12 ∧ V 116 s = c := by unfold hv at c1; split at c1 <;> omega
    rw [if_pos c1']
    first | refine J.aload_n (pc' := 17) rfl rfl rfl ?_ | refine J.aload_nN (pc' := 17) rfl rfl rfl ?_
    refine J.callV (pc' := 20) (t := 16) rfl MX12_fine ml_X12_212 iv_X12_fine (by decide) ⟨_, rfl, rfl⟩ B.1 (cm_fine B R1) rfl rfl (Nat.le_of_ble_eq_true rfl) (by first | omega | (exact R.r _ _) | (simp only [jM.len_sI, jM.len_sL, jM.len_sR, jM.len_fI, jM.len_fL, jM.len_fR]; omega) | (simp [jM.len_nw, jM.len_sI, jM.len_sL, jM.len_sR, jM.len_fI, jM.len_fL, jM.len_fR, *]; omega)) (by first | omega | (exact R.r _ _) | (simp only [jM.len_sI, jM.len_sL, jM.len_sR, jM.len_fI, jM.len_fL, jM.len_fR]; omega) | (simp [jM.len_nw, jM.len_sI, jM.len_sL, jM.len_sR, jM.len_fI, jM.len_fL, jM.len_fR, *]; omega)) (by first | omega | (exact R.r _ _) | (simp only [jM.len_sI, jM.len_sL, jM.len_sR, jM.len_fI, jM.len_fL, jM.len_fR]; omega) | (simp [jM.len_nw, jM.len_sI, jM.len_sL, jM.len_sR, jM.len_fI, jM.len_fL, jM.len_fR, *]; omega)) rfl rfl ?_ ?_
    · exact fun _ _ h => h
    rintro _ _ ⟨rfl, rfl⟩
    rw [if_pos b1]
    refine J.if_eq (tgt := 33) (pc' := 23) rfl rfl rfl (by first | omega | (exact R.r _ _) | (simp only [jM.len_sI, jM.len_sL, jM.len_sR, jM.len_fI, jM.len_fL, jM.len_fR]; omega) | (simp [jM.len_nw, jM.len_sI, jM.len_sL, jM.len_sR, jM.len_fI, jM.len_fL, jM.len_fR, *]; omega)) (fun c2 => ?_) (fun c2 => ?_)
    · omega
    · first | refine J.aload_n (pc' := 24) rfl rfl rfl ?_ | refine J.aload_nN (pc' := 24) rfl rfl rfl ?_
      refine J.dup (pc' := 25) rfl rfl rfl ?_
      refine J.mgI (pc' := 28) (j := 13) B rfl fl_X12_191 rfl rfl rfl ?_
      rw [jU_same]
      refine J.iconst (pc' := 29) rfl rfl ?_
      refine J.iadd (pc' := 30) rfl rfl ?_
      refine J.mpI (pc' := 33) (j := 13) B rfl fl_X12_191 rfl rfl rfl rfl ?_
      refine J.vret rfl rfl (by first | omega | (exact R.r _ _) | (simp only [jM.len_sI, jM.len_sL, jM.len_sR, jM.len_fI, jM.len_fL, jM.len_fR]; omega) | (simp [jM.len_nw, jM.len_sI, jM.len_sL, jM.len_sR, jM.len_fI, jM.len_fL, jM.len_fR, *]; omega)) (by first | omega | (exact R.r _ _) | (simp only [jM.len_sI, jM.len_sL, jM.len_sR, jM.len_fI, jM.len_fL, jM.len_fR]; omega) | (simp [jM.len_nw, jM.len_sI, jM.len_sL, jM.len_sR, jM.len_fI, jM.len_fL, jM.len_fR, *]; omega)) ?_
      exact ⟨rfl, by rw [jU_jU]⟩
  · have c1' : ¬ (s < V 16 12 ∧ V 116 s = c) := fun q => by unfold hv at c1; rw [if_pos q.1] at c1; exact c1 q.2
    rw [if_neg c1']
    first | refine J.aload_n (pc' := 9) rfl rfl rfl ?_ | refine J.aload_nN (pc' := 9) rfl rfl rfl ?_
    first | refine J.aload_n (pc' := 10) rfl rfl rfl ?_ | refine J.aload_nN (pc' := 10) rfl rfl rfl ?_
    refine J.mgI (pc' := 13) (j := 13) B rfl fl_X12_191 rfl rfl rfl ?_
    rw [jU_same]
    refine J.callV (pc' := 16) (t := 16) rfl MX12_wrong ml_X12_208 iv_X12_wrong (by decide) ⟨_, rfl, rfl⟩ B.1 (cm_wrong B R1) rfl rfl (Nat.le_of_ble_eq_true rfl) (by first | omega | (exact R.r _ _) | (simp only [jM.len_sI, jM.len_sL, jM.len_sR, jM.len_fI, jM.len_fL, jM.len_fR]; omega) | (simp [jM.len_nw, jM.len_sI, jM.len_sL, jM.len_sR, jM.len_fI, jM.len_fL, jM.len_fR, *]; omega)) (by first | omega | (exact R.r _ _) | (simp only [jM.len_sI, jM.len_sL, jM.len_sR, jM.len_fI, jM.len_fL, jM.len_fR]; omega) | (simp [jM.len_nw, jM.len_sI, jM.len_sL, jM.len_sR, jM.len_fI, jM.len_fL, jM.len_fR, *]; omega)) (by first | omega | (exact R.r _ _) | (simp only [jM.len_sI, jM.len_sL, jM.len_sR, jM.len_fI, jM.len_fL, jM.len_fR]; omega) | (simp [jM.len_nw, jM.len_sI, jM.len_sL, jM.len_sR, jM.len_fI, jM.len_fL, jM.len_fR, *]; omega)) rfl rfl ?_ ?_
    · exact fun _ _ h => h
    rintro _ _ ⟨rfl, rfl⟩
    rw [if_pos b1]
    first | refine J.aload_n (pc' := 17) rfl rfl rfl ?_ | refine J.aload_nN (pc' := 17) rfl rfl rfl ?_
    refine J.callV (pc' := 20) (t := 16) rfl MX12_fine ml_X12_212 iv_X12_fine (by decide) ⟨_, rfl, rfl⟩ B.1 (cm_fine B (R1.up (t := 16) (i := 14) (x := s) (fun _ => by show (-1 : Int) ≤ s ∧ s ≤ 400; omega))) rfl rfl (Nat.le_of_ble_eq_true rfl) (by first | omega | (exact R.r _ _) | (simp only [jM.len_sI, jM.len_sL, jM.len_sR, jM.len_fI, jM.len_fL, jM.len_fR]; omega) | (simp [jM.len_nw, jM.len_sI, jM.len_sL, jM.len_sR, jM.len_fI, jM.len_fL, jM.len_fR, *]; omega)) (by first | omega | (exact R.r _ _) | (simp only [jM.len_sI, jM.len_sL, jM.len_sR, jM.len_fI, jM.len_fL, jM.len_fR]; omega) | (simp [jM.len_nw, jM.len_sI, jM.len_sL, jM.len_sR, jM.len_fI, jM.len_fL, jM.len_fR, *]; omega)) (by first | omega | (exact R.r _ _) | (simp only [jM.len_sI, jM.len_sL, jM.len_sR, jM.len_fI, jM.len_fL, jM.len_fR]; omega) | (simp [jM.len_nw, jM.len_sI, jM.len_sL, jM.len_sR, jM.len_fI, jM.len_fL, jM.len_fR, *]; omega)) rfl rfl ?_ ?_
    · exact fun _ _ h => h
    rintro _ _ ⟨rfl, rfl⟩
    rw [jU_same, if_neg (by omega)]
    refine J.if_eq (tgt := 33) (pc' := 23) rfl rfl rfl (by first | omega | (exact R.r _ _) | (simp only [jM.len_sI, jM.len_sL, jM.len_sR, jM.len_fI, jM.len_fL, jM.len_fR]; omega) | (simp [jM.len_nw, jM.len_sI, jM.len_sL, jM.len_sR, jM.len_fI, jM.len_fL, jM.len_fR, *]; omega)) (fun c2 => ?_) (fun c2 => ?_)
    · refine J.vret rfl rfl (by first | omega | (exact R.r _ _) | (simp only [jM.len_sI, jM.len_sL, jM.len_sR, jM.len_fI, jM.len_fL, jM.len_fR]; omega) | (simp [jM.len_nw, jM.len_sI, jM.len_sL, jM.len_sR, jM.len_fI, jM.len_fL, jM.len_fR, *]; omega)) (by first | omega | (exact R.r _ _) | (simp only [jM.len_sI, jM.len_sL, jM.len_sR, jM.len_fI, jM.len_fL, jM.len_fR]; omega) | (simp [jM.len_nw, jM.len_sI, jM.len_sL, jM.len_sR, jM.len_fI, jM.len_fL, jM.len_fR, *]; omega)) ?_
      exact ⟨rfl, rfl⟩
    · omega
/-- the state behind digits() -/
def dgV (V : VV) : VV := if (numN (V 116) (V 16 12) 5 (sk (V 116) (V 16 12) (V 16 13)) 0).1 = sk (V 116) (V 16 12) (V 16 13) then jU (jU V 16 13 (sk (V 116) (V 16 12) (V 16 13))) 16 14 (sk (V 116) (V 16 12) (V 16 13)) else if (numN (V 116) (V 16 12) 5 (sk (V 116) (V 16 12) (V 16 13)) 0).1 < V 16 12 ∧ (48 ≤ V 116 (numN (V 116) (V 16 12) 5 (sk (V 116) (V 16 12) (V 16 13)) 0).1 ∧ V 116 (numN (V 116) (V 16 12) 5 (sk (V 116) (V 16 12) (V 16 13)) 0).1 ≤ 57) then jU (jU V 16 13 (numN (V 116) (V 16 12) 5 (sk (V 116) (V 16 12) (V 16 13)) 0).1) 16 14 (numN (V 116) (V 16 12) 5 (sk (V 116) (V 16 12) (V 16 13)) 0).1 else jU V 16 13 (numN (V 116) (V 16 12) 5 (sk (V 116) (V 16 12) (V 16 13)) 0).1
theorem cm_digits (B : isB β) (R : isR V) (hp : V 16 13 ≤ V 16 12) (hb : V 16 14 = -1) : CT γ mX12_digits 1 0 0 [.ref (β.2 16)] (jP β V) (fun r h' => r = some (.int (jI (numN (V 116) (V 16 12) 5 (sk (V 116) (V 16 12) (V 16 13)) 0).2)) ∧ h' = jP β (dgV V)) X0 := by
  have hf := R.f
  have sb := sk_b (T := V 116) hp
  unfold dgV
  refine CT.of MX12_digits (Nat.le_of_ble_eq_true rfl) ?_
  show J γ mX12_digits 1 0 0 0 0 (jP β V) 0 [(0, .ref (β.2 16))] [] _ _
  refine J.iconst (pc' := 1) rfl rfl ?_
  refine J.istore_n (pc' := 2) rfl rfl (by decide) ?_
  refine J.iconst (pc' := 3) rfl rfl ?_
  refine J.istore_n (pc' := 4) rfl rfl (by decide) ?_
  first | refine J.aload_n (pc' := 5) rfl rfl rfl ?_ | refine J.aload_nN (pc' := 5) rfl rfl rfl ?_
  refine J.callV (pc' := 8) (t := 16) rfl MX12_here ml_X12_197 iv_X12_here (by decide) ⟨_, rfl, rfl⟩ B.1 (cm_here B R hp) rfl rfl (Nat.le_of_ble_eq_true rfl) (by first | omega | (exact R.r _ _) | (simp only [jM.len_sI, jM.len_sL, jM.len_sR, jM.len_fI, jM.len_fL, jM.len_fR]; omega) | (simp [jM.len_nw, jM.len_sI, jM.len_sL, jM.len_sR, jM.len_fI, jM.len_fL, jM.len_fR, *]; omega)) (by first | omega | (exact R.r _ _) | (simp only [jM.len_sI, jM.len_sL, jM.len_sR, jM.len_fI, jM.len_fL, jM.len_fR]; omega) | (simp [jM.len_nw, jM.len_sI, jM.len_sL, jM.len_sR, jM.len_fI, jM.len_fL, jM.len_fR, *]; omega)) (by first | omega | (exact R.r _ _) | (simp only [jM.len_sI, jM.len_sL, jM.len_sR, jM.len_fI, jM.len_fL, jM.len_fR]; omega) | (simp [jM.len_nw, jM.len_sI, jM.len_sL, jM.len_sR, jM.len_fI, jM.len_fL, jM.len_fR, *]; omega)) rfl rfl ?_ ?_
  · exact fun _ _ h => h
  rintro _ _ ⟨rfl, rfl⟩
  generalize hs : sk (V 116) (V 16 12) (V 16 13) = s at sb ⊢
  have R1 : ∀ q, 0 ≤ q → q ≤ V 16 12 → isR (jU V 16 13 q) := fun q q1 q2 => R.up (fun _ => by show (0 : Int) ≤ q ∧ q ≤ 400; omega)
  have b1 : ∀ q, (jU V 16 13 q) 16 14 = -1 := fun _ => hb
  have rT := R.s 116 s
  have hvb : r32 (hv (V 116) (V 16 12) s) := by unfold hv; split <;> omega
  have badq : ∀ q v : Int, 0 ≤ q → q ≤ V 16 12 → ∀ lv, hasL lv [(0, .ref (β.2 16)), (1, .int (jI v))] → J γ mX12_digits 1 0 0 0 0 (jP β (jU (jU V 16 13 q) 16 14 q)) 22 lv [] (fun r h' => r = some (.int (jI v)) ∧ h' = jP β (jU (jU V 16 13 q) 16 14 q)) X0 := by
    intro q v q1 q2 lv hlv
    refine J.lc hlv ?_
    first | refine J.aload_n (pc' := 23) rfl rfl rfl ?_ | refine J.aload_nN (pc' := 23) rfl rfl rfl ?_
    refine J.callV (pc' := 26) (t := 16) rfl MX12_fine ml_X12_212 iv_X12_fine (by decide) ⟨_, rfl, rfl⟩ B.1 (cm_fine B ((R1 q q1 q2).up (t := 16) (i := 14) (x := q) (fun _ => by show (-1 : Int) ≤ q ∧ q ≤ 400; omega))) rfl rfl (Nat.le_of_ble_eq_true rfl) (by first | omega | (exact R.r _ _) | (simp only [jM.len_sI, jM.len_sL, jM.len_sR, jM.len_fI, jM.len_fL, jM.len_fR]; omega) | (simp [jM.len_nw, jM.len_sI, jM.len_sL, jM.len_sR, jM.len_fI, jM.len_fL, jM.len_fR, *]; omega)) (by first | omega | (exact R.r _ _) | (simp only [jM.len_sI, jM.len_sL, jM.len_sR, jM.len_fI, jM.len_fL, jM.len_fR]; omega) | (simp [jM.len_nw, jM.len_sI, jM.len_sL, jM.len_sR, jM.len_fI, jM.len_fL, jM.len_fR, *]; omega)) (by first | omega | (exact R.r _ _) | (simp only [jM.len_sI, jM.len_sL, jM.len_sR, jM.len_fI, jM.len_fL, jM.len_fR]; omega) | (simp [jM.len_nw, jM.len_sI, jM.len_sL, jM.len_sR, jM.len_fI, jM.len_fL, jM.len_fR, *]; omega)) rfl rfl ?_ ?_
    · exact fun _ _ h => h
    rintro _ _ ⟨rfl, rfl⟩
    rw [jU_same, if_neg (by omega)]
    refine J.if_eq (tgt := 105) (pc' := 29) rfl rfl rfl (by first | omega | (exact R.r _ _) | (simp only [jM.len_sI, jM.len_sL, jM.len_sR, jM.len_fI, jM.len_fL, jM.len_fR]; omega) | (simp [jM.len_nw, jM.len_sI, jM.len_sL, jM.len_sR, jM.len_fI, jM.len_fL, jM.len_fR, *]; omega)) (fun c2 => ?_) (fun c2 => ?_)
    · refine J.iload_n (pc' := 106) rfl rfl rfl ?_
      refine J.iret rfl rfl (by first | omega | (exact R.r _ _) | (simp only [jM.len_sI, jM.len_sL, jM.len_sR, jM.len_fI, jM.len_fL, jM.len_fR]; omega) | (simp [jM.len_nw, jM.len_sI, jM.len_sL, jM.len_sR, jM.len_fI, jM.len_fL, jM.len_fR, *]; omega)) (by first | omega | (exact R.r _ _) | (simp only [jM.len_sI, jM.len_sL, jM.len_sR, jM.len_fI, jM.len_fL, jM.len_fR]; omega) | (simp [jM.len_nw, jM.len_sI, jM.len_sL, jM.len_sR, jM.len_fI, jM.len_fL, jM.len_fR, *]; omega)) ?_
      exact ⟨rfl, rfl⟩
    · omega
  have loop : ∀ (k j : Nat), j + k = 5 → ∀ q v : Int, s ≤ q → q ≤ V 16 12 → q = s + j → 0 ≤ v → v < 100000 → (j = 0 → q < V 16 12 ∧ 48 ≤ V 116 q ∧ V 116 q ≤ 57) → v < 10 ^ j → ∀ e vv : Int, numN (V 116) (V 16 12) k q v = (e, vv) → ∀ lv, hasL lv [(0, .ref (β.2 16)), (1, .int (jI v)), (2, .int (jI (j : Int)))] → J γ mX12_digits 1 0 0 0 0 (jP β (jU V 16 13 q)) 22 lv [] (fun r h' => r = some (.int (jI vv)) ∧ h' = jP β (if e = s then jU (jU V 16 13 s) 16 14 s else if e < V 16 12 ∧ (48 ≤ V 116 e ∧ V 116 e ≤ 57) then jU (jU V 16 13 e) 16 14 e else jU V 16 13 e)) X0 := by
    intro k
    induction k with
    | zero =>
      intro j hj q v q1 q2 q3 v1 v2 h0 v3 e vv hN lv hlv
      obtain ⟨rfl, rfl⟩ := Prod.mk.inj hN
      refine J.lc hlv ?_
      first | refine J.aload_n (pc' := 23) rfl rfl rfl ?_ | refine J.aload_nN (pc' := 23) rfl rfl rfl ?_
      refine J.callV (pc' := 26) (t := 16) rfl MX12_fine ml_X12_212 iv_X12_fine (by decide) ⟨_, rfl, rfl⟩ B.1 (cm_fine B (R1 q (by omega) q2)) rfl rfl (Nat.le_of_ble_eq_true rfl) (by first | omega | (exact R.r _ _) | (simp only [jM.len_sI, jM.len_sL, jM.len_sR, jM.len_fI, jM.len_fL, jM.len_fR]; omega) | (simp [jM.len_nw, jM.len_sI, jM.len_sL, jM.len_sR, jM.len_fI, jM.len_fL, jM.len_fR, *]; omega)) (by first | omega | (exact R.r _ _) | (simp only [jM.len_sI, jM.len_sL, jM.len_sR, jM.len_fI, jM.len_fL, jM.len_fR]; omega) | (simp [jM.len_nw, jM.len_sI, jM.len_sL, jM.len_sR, jM.len_fI, jM.len_fL, jM.len_fR, *]; omega)) (by first | omega | (exact R.r _ _) | (simp only [jM.len_sI, jM.len_sL, jM.len_sR, jM.len_fI, jM.len_fL, jM.len_fR]; omega) | (simp [jM.len_nw, jM.len_sI, jM.len_sL, jM.len_sR, jM.len_fI, jM.len_fL, jM.len_fR, *]; omega)) rfl rfl ?_ ?_
      · exact fun _ _ h => h
      rintro _ _ ⟨rfl, rfl⟩
      rw [if_pos (b1 q)]
      refine J.if_eq (tgt := 105) (pc' := 29) rfl rfl rfl (by first | omega | (exact R.r _ _) | (simp only [jM.len_sI, jM.len_sL, jM.len_sR, jM.len_fI, jM.len_fL, jM.len_fR]; omega) | (simp [jM.len_nw, jM.len_sI, jM.len_sL, jM.len_sR, jM.len_fI, jM.len_fL, jM.len_fR, *]; omega)) (fun c1 => ?_) (fun c1 => ?_)
      · omega
      · first | refine J.aload_n (pc' := 30) rfl rfl rfl ?_ | refine J.aload_nN (pc' := 30) rfl rfl rfl ?_
        refine J.mgI (pc' := 33) (j := 13) B rfl fl_X12_191 rfl rfl rfl ?_
        first | refine J.aload_n (pc' := 34) rfl rfl rfl ?_ | refine J.aload_nN (pc' := 34) rfl rfl rfl ?_
        refine J.mgI (pc' := 37) (j := 12) B rfl fl_X12_194 rfl rfl rfl ?_
        rw [jU_same, jU_i _ (by decide)]
        refine J.icmp_ge (tgt := 105) (pc' := 40) rfl rfl rfl (by first | omega | (exact R.r _ _) | (simp only [jM.len_sI, jM.len_sL, jM.len_sR, jM.len_fI, jM.len_fL, jM.len_fR]; omega) | (simp [jM.len_nw, jM.len_sI, jM.len_sL, jM.len_sR, jM.len_fI, jM.len_fL, jM.len_fR, *]; omega)) (by first | omega | (exact R.r _ _) | (simp only [jM.len_sI, jM.len_sL, jM.len_sR, jM.len_fI, jM.len_fL, jM.len_fR]; omega) | (simp [jM.len_nw, jM.len_sI, jM.len_sL, jM.len_sR, jM.len_fI, jM.len_fL, jM.len_fR, *]; omega)) (fun c2 => ?_) (fun c2 => ?_)
        · refine J.iload_n (pc' := 106) rfl rfl rfl ?_
          refine J.iret rfl rfl (by first | omega | (exact R.r _ _) | (simp only [jM.len_sI, jM.len_sL, jM.len_sR, jM.len_fI, jM.len_fL, jM.len_fR]; omega) | (simp [jM.len_nw, jM.len_sI, jM.len_sL, jM.len_sR, jM.len_fI, jM.len_fL, jM.len_fR, *]; omega)) (by first | omega | (exact R.r _ _) | (simp only [jM.len_sI, jM.len_sL, jM.len_sR, jM.len_fI, jM.len_fL, jM.len_fR]; omega) | (simp [jM.len_nw, jM.len_sI, jM.len_sL, jM.len_sR, jM.len_fI, jM.len_fL, jM.len_fR, *]; omega)) ?_
          exact ⟨rfl, by rw [if_neg (by omega), if_neg (by omega)]⟩
        · first | refine J.aload_n (pc' := 41) rfl rfl rfl ?_ | refine J.aload_nN (pc' := 41) rfl rfl rfl ?_
          refine J.mgR (pc' := 44) (t := 116) B rfl fl_X12_34 rfl rfl (by decide) rfl ?_
          first | refine J.aload_n (pc' := 45) rfl rfl rfl ?_ | refine J.aload_nN (pc' := 45) rfl rfl rfl ?_
          refine J.mgI (pc' := 48) (j := 13) B rfl fl_X12_191 rfl rfl rfl ?_
          rw [jU_same]
          refine J.mald (pc' := 49) B rfl rfl rfl (by omega) (by simp only [jLn]; omega) rfl ?_
          rw [jU_o _ (by decide)]
          refine J.callS (pc' := 52) rfl MX12_isDigit ml_X12_219 is_X12_isDigit (cm_isDigit (R.r _ _)) rfl rfl (Nat.le_of_ble_eq_true rfl) (by first | omega | (exact R.r _ _) | (simp only [jM.len_sI, jM.len_sL, jM.len_sR, jM.len_fI, jM.len_fL, jM.len_fR]; omega) | (simp [jM.len_nw, jM.len_sI, jM.len_sL, jM.len_sR, jM.len_fI, jM.len_fL, jM.len_fR, *]; omega)) (by first | omega | (exact R.r _ _) | (simp only [jM.len_sI, jM.len_sL, jM.len_sR, jM.len_fI, jM.len_fL, jM.len_fR]; omega) | (simp [jM.len_nw, jM.len_sI, jM.len_sL, jM.len_sR, jM.len_fI, jM.len_fL, jM.len_fR, *]; omega)) (by first | omega | (exact R.r _ _) | (simp only [jM.len_sI, jM.len_sL, jM.len_sR, jM.len_fI, jM.len_fL, jM.len_fR]; omega) | (simp [jM.len_nw, jM.len_sI, jM.len_sL, jM.len_sR, jM.len_fI, jM.len_fL, jM.len_fR, *]; omega)) rfl rfl ?_ ?_
          · exact fun _ _ h => h
          rintro _ _ ⟨rfl, rfl⟩
          by_cases hd : 48 ≤ V 116 q ∧ V 116 q ≤ 57
          · rw [if_pos hd, if_neg (by omega), if_pos ⟨by omega, hd⟩]
            refine J.if_eq (tgt := 105) (pc' := 55) rfl rfl rfl (by first | omega | (exact R.r _ _) | (simp only [jM.len_sI, jM.len_sL, jM.len_sR, jM.len_fI, jM.len_fL, jM.len_fR]; omega) | (simp [jM.len_nw, jM.len_sI, jM.len_sL, jM.len_sR, jM.len_fI, jM.len_fL, jM.len_fR, *]; omega)) (fun c3 => ?_) (fun c3 => ?_)
            · omega
            · refine J.iload_n (pc' := 56) rfl rfl rfl ?_
              refine J.iconst (pc' := 57) rfl rfl ?_
              refine J.icmp_ne (tgt := 71) (pc' := 60) rfl rfl rfl (by first | omega | (exact R.r _ _) | (simp only [jM.len_sI, jM.len_sL, jM.len_sR, jM.len_fI, jM.len_fL, jM.len_fR]; omega) | (simp [jM.len_nw, jM.len_sI, jM.len_sL, jM.len_sR, jM.len_fI, jM.len_fL, jM.len_fR, *]; omega)) (by first | omega | (exact R.r _ _) | (simp only [jM.len_sI, jM.len_sL, jM.len_sR, jM.len_fI, jM.len_fL, jM.len_fR]; omega) | (simp [jM.len_nw, jM.len_sI, jM.len_sL, jM.len_sR, jM.len_fI, jM.len_fL, jM.len_fR, *]; omega)) (fun c4 => ?_) (fun c4 => ?_)
              · omega
              · first | refine J.aload_n (pc' := 61) rfl rfl rfl ?_ | refine J.aload_nN (pc' := 61) rfl rfl rfl ?_
                first | refine J.aload_n (pc' := 62) rfl rfl rfl ?_ | refine J.aload_nN (pc' := 62) rfl rfl rfl ?_
                refine J.mgI (pc' := 65) (j := 13) B rfl fl_X12_191 rfl rfl rfl ?_
                rw [jU_same]
                refine J.callV (pc' := 68) (t := 16) rfl MX12_wrong ml_X12_208 iv_X12_wrong (by decide) ⟨_, rfl, rfl⟩ B.1 (cm_wrong B (R1 q (by omega) q2)) rfl rfl (Nat.le_of_ble_eq_true rfl) (by first | omega | (exact R.r _ _) | (simp only [jM.len_sI, jM.len_sL, jM.len_sR, jM.len_fI, jM.len_fL, jM.len_fR]; omega) | (simp [jM.len_nw, jM.len_sI, jM.len_sL, jM.len_sR, jM.len_fI, jM.len_fL, jM.len_fR, *]; omega)) (by first | omega | (exact R.r _ _) | (simp only [jM.len_sI, jM.len_sL, jM.len_sR, jM.len_fI, jM.len_fL, jM.len_fR]; omega) | (simp [jM.len_nw, jM.len_sI, jM.len_sL, jM.len_sR, jM.len_fI, jM.len_fL, jM.len_fR, *]; omega)) (by first | omega | (exact R.r _ _) | (simp only [jM.len_sI, jM.len_sL, jM.len_sR, jM.len_fI, jM.len_fL, jM.len_fR]; omega) | (simp [jM.len_nw, jM.len_sI, jM.len_sL, jM.len_sR, jM.len_fI, jM.len_fL, jM.len_fR, *]; omega)) rfl rfl ?_ ?_
                · exact fun _ _ h => h
                rintro _ _ ⟨rfl, rfl⟩
                rw [if_pos (b1 q)]
                refine J.goto (tgt := 22) rfl rfl ?_
                exact badq q v (by omega) q2 _ ⟨rfl, rfl, trivial⟩
          · rw [if_neg hd, if_neg (by omega), if_neg (fun z => hd z.2)]
            refine J.if_eq (tgt := 105) (pc' := 55) rfl rfl rfl (by first | omega | (exact R.r _ _) | (simp only [jM.len_sI, jM.len_sL, jM.len_sR, jM.len_fI, jM.len_fL, jM.len_fR]; omega) | (simp [jM.len_nw, jM.len_sI, jM.len_sL, jM.len_sR, jM.len_fI, jM.len_fL, jM.len_fR, *]; omega)) (fun c3 => ?_) (fun c3 => ?_)
            · refine J.iload_n (pc' := 106) rfl rfl rfl ?_
              refine J.iret rfl rfl (by first | omega | (exact R.r _ _) | (simp only [jM.len_sI, jM.len_sL, jM.len_sR, jM.len_fI, jM.len_fL, jM.len_fR]; omega) | (simp [jM.len_nw, jM.len_sI, jM.len_sL, jM.len_sR, jM.len_fI, jM.len_fL, jM.len_fR, *]; omega)) (by first | omega | (exact R.r _ _) | (simp only [jM.len_sI, jM.len_sL, jM.len_sR, jM.len_fI, jM.len_fL, jM.len_fR]; omega) | (simp [jM.len_nw, jM.len_sI, jM.len_sL, jM.len_sR, jM.len_fI, jM.len_fL, jM.len_fR, *]; omega)) ?_
              exact ⟨rfl, rfl⟩
            · omega
    | succ k ih =>
      intro j hj q v q1 q2 q3 v1 v2 h0 v3 e vv hN lv hlv
      refine J.lc hlv ?_
      first | refine J.aload_n (pc' := 23) rfl rfl rfl ?_ | refine J.aload_nN (pc' := 23) rfl rfl rfl ?_
      refine J.callV (pc' := 26) (t := 16) rfl MX12_fine ml_X12_212 iv_X12_fine (by decide) ⟨_, rfl, rfl⟩ B.1 (cm_fine B (R1 q (by omega) q2)) rfl rfl (Nat.le_of_ble_eq_true rfl) (by first | omega | (exact R.r _ _) | (simp only [jM.len_sI, jM.len_sL, jM.len_sR, jM.len_fI, jM.len_fL, jM.len_fR]; omega) | (simp [jM.len_nw, jM.len_sI, jM.len_sL, jM.len_sR, jM.len_fI, jM.len_fL, jM.len_fR, *]; omega)) (by first | omega | (exact R.r _ _) | (simp only [jM.len_sI, jM.len_sL, jM.len_sR, jM.len_fI, jM.len_fL, jM.len_fR]; omega) | (simp [jM.len_nw, jM.len_sI, jM.len_sL, jM.len_sR, jM.len_fI, jM.len_fL, jM.len_fR, *]; omega)) (by first | omega | (exact R.r _ _) | (simp only [jM.len_sI, jM.len_sL, jM.len_sR, jM.len_fI, jM.len_fL, jM.len_fR]; omega) | (simp [jM.len_nw, jM.len_sI, jM.len_sL, jM.len_sR, jM.len_fI, jM.len_fL, jM.len_fR, *]; omega)) rfl rfl ?_ ?_
      · exact fun _ _ h => h
      rintro _ _ ⟨rfl, rfl⟩
      rw [if_pos (b1 q)]
      by_cases hd : q < V 16 12 ∧ (48 ≤ V 116 q ∧ V 116 q ≤ 57)
      · rw [numN, if_pos hd] at hN
        have p4 : (10 : Int) ^ j ≤ 10000 := by
          rcases (by omega : j = 0 ∨ j = 1 ∨ j = 2 ∨ j = 3 ∨ j = 4) with z | z | z | z | z <;> subst z <;> decide
        have h9 := ih (j + 1) (by omega) (q + 1) (10 * v + V 116 q - 48) (by omega) (by omega) (by omega) (by omega) (by omega) (fun z => by omega) (by rw [Int.pow_succ]; omega) e vv hN
        refine J.if_eq (tgt := 105) (pc' := 29) rfl rfl rfl (by first | omega | (exact R.r _ _) | (simp only [jM.len_sI, jM.len_sL, jM.len_sR, jM.len_fI, jM.len_fL, jM.len_fR]; omega) | (simp [jM.len_nw, jM.len_sI, jM.len_sL, jM.len_sR, jM.len_fI, jM.len_fL, jM.len_fR, *]; omega)) (fun c1 => ?_) (fun c1 => ?_)
        · omega
        · first | refine J.aload_n (pc' := 30) rfl rfl rfl ?_ | refine J.aload_nN (pc' := 30) rfl rfl rfl ?_
          refine J.mgI (pc' := 33) (j := 13) B rfl fl_X12_191 rfl rfl rfl ?_
          first | refine J.aload_n (pc' := 34) rfl rfl rfl ?_ | refine J.aload_nN (pc' := 34) rfl rfl rfl ?_
          refine J.mgI (pc' := 37) (j := 12) B rfl fl_X12_194 rfl rfl rfl ?_
          rw [jU_same, jU_i _ (by decide)]
          refine J.icmp_ge (tgt := 105) (pc' := 40) rfl rfl rfl (by first | omega | (exact R.r _ _) | (simp only [jM.len_sI, jM.len_sL, jM.len_sR, jM.len_fI, jM.len_fL, jM.len_fR]; omega) | (simp [jM.len_nw, jM.len_sI, jM.len_sL, jM.len_sR, jM.len_fI, jM.len_fL, jM.len_fR, *]; omega)) (by first | omega | (exact R.r _ _) | (simp only [jM.len_sI, jM.len_sL, jM.len_sR, jM.len_fI, jM.len_fL, jM.len_fR]; omega) | (simp [jM.len_nw, jM.len_sI, jM.len_sL, jM.len_sR, jM.len_fI, jM.len_fL, jM.len_fR, *]; omega)) (fun c2 => ?_) (fun c2 => ?_)
          · omega
          · first | refine J.aload_n (pc' := 41) rfl rfl rfl ?_ | refine J.aload_nN (pc' := 41) rfl rfl rfl ?_
            refine J.mgR (pc' := 44) (t := 116) B rfl fl_X12_34 rfl rfl (by decide) rfl ?_
            first | refine J.aload_n (pc' := 45) rfl rfl rfl ?_ | refine J.aload_nN (pc' := 45) rfl rfl rfl ?_
            refine J.mgI (pc' := 48) (j := 13) B rfl fl_X12_191 rfl rfl rfl ?_
            rw [jU_same]
            refine J.mald (pc' := 49) B rfl rfl rfl (by omega) (by simp only [jLn]; omega) rfl ?_
            rw [jU_o _ (by decide)]
            refine J.callS (pc' := 52) rfl MX12_isDigit ml_X12_219 is_X12_isDigit (cm_isDigit (R.r _ _)) rfl rfl (Nat.le_of_ble_eq_true rfl) (by first | omega | (exact R.r _ _) | (simp only [jM.len_sI, jM.len_sL, jM.len_sR, jM.len_fI, jM.len_fL, jM.len_fR]; omega) | (simp [jM.len_nw, jM.len_sI, jM.len_sL, jM.len_sR, jM.len_fI, jM.len_fL, jM.len_fR, *]; omega)) (by first | omega | (exact R.r _ _) | (simp only [jM.len_sI, jM.len_sL, jM.len_sR, jM.len_fI, jM.len_fL, jM.len_fR]; omega) | (simp [jM.len_nw, jM.len_sI, jM.len_sL, jM.len_sR, jM.len_fI, jM.len_fL, jM.len_fR, *]; omega)) (by first | omega | (exact R.r _ _) | (simp only [jM.len_sI, jM.len_sL, jM.len_sR, jM.len_fI, jM.len_fL, jM.len_fR]; omega) | (simp [jM.len_nw, jM.len_sI, jM.len_sL, jM.len_sR, jM.len_fI, jM.len_fL, jM.len_fR, *]; omega)) rfl rfl ?_ ?_
            · exact fun _ _ h => h
            rintro _ _ ⟨rfl, rfl⟩
            rw [if_pos hd.2]
            refine J.if_eq (tgt := 105) (pc' := 55) rfl rfl rfl (by first | omega | (exact R.r _ _) | (simp only [jM.len_sI, jM.len_sL, jM.len_sR, jM.len_fI, jM.len_fL, jM.len_fR]; omega) | (simp [jM.len_nw, jM.len_sI, jM.len_sL, jM.len_sR, jM.len_fI, jM.len_fL, jM.len_fR, *]; omega)) (fun c3 => ?_) (fun c3 => ?_)
            · omega
            · refine J.iload_n (pc' := 56) rfl rfl rfl ?_
              refine J.iconst (pc' := 57) rfl rfl ?_
              refine J.icmp_ne (tgt := 71) (pc' := 60) rfl rfl rfl (by first | omega | (exact R.r _ _) | (simp only [jM.len_sI, jM.len_sL, jM.len_sR, jM.len_fI, jM.len_fL, jM.len_fR]; omega) | (simp [jM.len_nw, jM.len_sI, jM.len_sL, jM.len_sR, jM.len_fI, jM.len_fL, jM.len_fR, *]; omega)) (by first | omega | (exact R.r _ _) | (simp only [jM.len_sI, jM.len_sL, jM.len_sR, jM.len_fI, jM.len_fL, jM.len_fR]; omega) | (simp [jM.len_nw, jM.len_sI, jM.len_sL, jM.len_sR, jM.len_fI, jM.len_fL, jM.len_fR, *]; omega)) (fun c4 => ?_) (fun c4 => ?_)
              · refine J.bipush (pc' := 73) rfl rfl (by decide) ?_
                refine J.iload_n (pc' := 74) rfl rfl rfl ?_
                refine J.imul (pc' := 75) rfl rfl ?_
                first | refine J.aload_n (pc' := 76) rfl rfl rfl ?_ | refine J.aload_nN (pc' := 76) rfl rfl rfl ?_
                refine J.mgR (pc' := 79) (t := 116) B rfl fl_X12_34 rfl rfl (by decide) rfl ?_
                first | refine J.aload_n (pc' := 80) rfl rfl rfl ?_ | refine J.aload_nN (pc' := 80) rfl rfl rfl ?_
                refine J.mgI (pc' := 83) (j := 13) B rfl fl_X12_191 rfl rfl rfl ?_
                rw [jU_same]
                refine J.mald (pc' := 84) B rfl rfl rfl (by omega) (by simp only [jLn]; omega) rfl ?_
                rw [jU_o _ (by decide)]
                refine J.iadd (pc' := 85) rfl rfl ?_
                refine J.bipush (pc' := 87) rfl rfl (by decide) ?_
                refine J.isub (pc' := 88) rfl rfl ?_
                refine J.istore_n (pc' := 89) rfl rfl (by decide) ?_
                refine J.iinc (pc' := 92) rfl rfl rfl (by decide) ?_
                first | refine J.aload_n (pc' := 93) rfl rfl rfl ?_ | refine J.aload_nN (pc' := 93) rfl rfl rfl ?_
                refine J.dup (pc' := 94) rfl rfl rfl ?_
                refine J.mgI (pc' := 97) (j := 13) B rfl fl_X12_191 rfl rfl rfl ?_
                rw [jU_same]
                refine J.iconst (pc' := 98) rfl rfl ?_
                refine J.iadd (pc' := 99) rfl rfl ?_
                refine J.mpI (pc' := 102) (j := 13) B rfl fl_X12_191 rfl rfl rfl rfl ?_
                refine J.goto (tgt := 22) rfl rfl ?_
                rw [jU_jU]
                exact h9 _ ⟨rfl, rfl, rfl, trivial⟩
              · omega
      · rw [numN, if_neg hd] at hN
        obtain ⟨rfl, rfl⟩ := Prod.mk.inj hN
        have hj0 : j ≠ 0 := fun z => hd ((h0 z))
        rw [if_neg (by omega), if_neg hd]
        refine J.if_eq (tgt := 105) (pc' := 29) rfl rfl rfl (by first | omega | (exact R.r _ _) | (simp only [jM.len_sI, jM.len_sL, jM.len_sR, jM.len_fI, jM.len_fL, jM.len_fR]; omega) | (simp [jM.len_nw, jM.len_sI, jM.len_sL, jM.len_sR, jM.len_fI, jM.len_fL, jM.len_fR, *]; omega)) (fun c1 => ?_) (fun c1 => ?_)
        · omega
        · first | refine J.aload_n (pc' := 30) rfl rfl rfl ?_ | refine J.aload_nN (pc' := 30) rfl rfl rfl ?_
          refine J.mgI (pc' := 33) (j := 13) B rfl fl_X12_191 rfl rfl rfl ?_
          first | refine J.aload_n (pc' := 34) rfl rfl rfl ?_ | refine J.aload_nN (pc' := 34) rfl rfl rfl ?_
          refine J.mgI (pc' := 37) (j := 12) B rfl fl_X12_194 rfl rfl rfl ?_
          rw [jU_same, jU_i _ (by decide)]
          refine J.icmp_ge (tgt := 105) (pc' := 40) rfl rfl rfl (by first | omega | (exact R.r _ _) | (simp only [jM.len_sI, jM.len_sL, jM.len_sR, jM.len_fI, jM.len_fL, jM.len_fR]; omega) | (simp [jM.len_nw, jM.len_sI, jM.len_sL, jM.len_sR, jM.len_fI, jM.len_fL, jM.len_fR, *]; omega)) (by first | omega | (exact R.r _ _) | (simp only [jM.len_sI, jM.len_sL, jM.len_sR, jM.len_fI, jM.len_fL, jM.len_fR]; omega) | (simp [jM.len_nw, jM.len_sI, jM.len_sL, jM.len_sR, jM.len_fI, jM.len_fL, jM.len_fR, *]; omega)) (fun c2 => ?_) (fun c2 => ?_)
          · refine J.iload_n (pc' := 106) rfl rfl rfl ?_
            refine J.iret rfl rfl (by first | omega | (exact R.r _ _) | (simp only [jM.len_sI, jM.len_sL, jM.len_sR, jM.len_fI, jM.len_fL, jM.len_fR]; omega) | (simp [jM.len_nw, jM.len_sI, jM.len_sL, jM.len_sR, jM.len_fI, jM.len_fL, jM.len_fR, *]; omega)) (by first | omega | (exact R.r _ _) | (simp only [jM.len_sI, jM.len_sL, jM.len_sR, jM.len_fI, jM.len_fL, jM.len_fR]; omega) | (simp [jM.len_nw, jM.len_sI, jM.len_sL, jM.len_sR, jM.len_fI, jM.len_fL, jM.len_fR, *]; omega)) ?_
            exact ⟨rfl, rfl⟩
          · first | refine J.aload_n (pc' := 41) rfl rfl rfl ?_ | refine J.aload_nN (pc' := 41) rfl rfl rfl ?_
            refine J.mgR (pc' := 44) (t := 116) B rfl fl_X12_34 rfl rfl (by decide) rfl ?_
            first | refine J.aload_n (pc' := 45) rfl rfl rfl ?_ | refine J.aload_nN (pc' := 45) rfl rfl rfl ?_
            refine J.mgI (pc' := 48) (j := 13) B rfl fl_X12_191 rfl rfl rfl ?_
            rw [jU_same]
            refine J.mald (pc' := 49) B rfl rfl rfl (by omega) (by simp only [jLn]; omega) rfl ?_
            rw [jU_o _ (by decide)]
            refine J.callS (pc' := 52) rfl MX12_isDigit ml_X12_219 is_X12_isDigit (cm_isDigit (R.r _ _)) rfl rfl (Nat.le_of_ble_eq_true rfl) (by first | omega | (exact R.r _ _) | (simp only [jM.len_sI, jM.len_sL, jM.len_sR, jM.len_fI, jM.len_fL, jM.len_fR]; omega) | (simp [jM.len_nw, jM.len_sI, jM.len_sL, jM.len_sR, jM.len_fI, jM.len_fL, jM.len_fR, *]; omega)) (by first | omega | (exact R.r _ _) | (simp only [jM.len_sI, jM.len_sL, jM.len_sR, jM.len_fI, jM.len_fL, jM.len_fR]; omega) | (simp [jM.len_nw, jM.len_sI, jM.len_sL, jM.len_sR, jM.len_fI, jM.len_fL, jM.len_fR, *]; omega)) (by first | omega | (exact R.r _ _) | (simp only [jM.len_sI, jM.len_sL, jM.len_sR, jM.len_fI, jM.len_fL, jM.len_fR]; omega) | (simp [jM.len_nw, jM.len_sI, jM.len_sL, jM.len_sR, jM.len_fI, jM.len_fL, jM.len_fR, *]; omega)) rfl rfl ?_ ?_
            · exact fun _ _ h => h
            rintro _ _ ⟨rfl, rfl⟩
            rw [if_neg (fun z => hd ⟨by omega, z⟩)]
            refine J.if_eq (tgt := 105) (pc' := 55) rfl rfl rfl (by first | omega | (exact R.r _ _) | (simp only [jM.len_sI, jM.len_sL, jM.len_sR, jM.len_fI, jM.len_fL, jM.len_fR]; omega) | (simp [jM.len_nw, jM.len_sI, jM.len_sL, jM.len_sR, jM.len_fI, jM.len_fL, jM.len_fR, *]; omega)) (fun c3 => ?_) (fun c3 => ?_)
            · refine J.iload_n (pc' := 106) rfl rfl rfl ?_
              refine J.iret rfl rfl (by first | omega | (exact R.r _ _) | (simp only [jM.len_sI, jM.len_sL, jM.len_sR, jM.len_fI, jM.len_fL, jM.len_fR]; omega) | (simp [jM.len_nw, jM.len_sI, jM.len_sL, jM.len_sR, jM.len_fI, jM.len_fL, jM.len_fR, *]; omega)) (by first | omega | (exact R.r _ _) | (simp only [jM.len_sI, jM.len_sL, jM.len_sR, jM.len_fI, jM.len_fL, jM.len_fR]; omega) | (simp [jM.len_nw, jM.len_sI, jM.len_sL, jM.len_sR, jM.len_fI, jM.len_fL, jM.len_fR, *]; omega)) ?_
              exact ⟨rfl, rfl⟩
            · omega
  refine J.callS (pc' := 11) rfl MX12_isDigit ml_X12_219 is_X12_isDigit (cm_isDigit hvb) rfl rfl (Nat.le_of_ble_eq_true rfl) (by first | omega | (exact R.r _ _) | (simp only [jM.len_sI, jM.len_sL, jM.len_sR, jM.len_fI, jM.len_fL, jM.len_fR]; omega) | (simp [jM.len_nw, jM.len_sI, jM.len_sL, jM.len_sR, jM.len_fI, jM.len_fL, jM.len_fR, *]; omega)) (by first | omega | (exact R.r _ _) | (simp only [jM.len_sI, jM.len_sL, jM.len_sR, jM.len_fI, jM.len_fL, jM.len_fR]; omega) | (simp [jM.len_nw, jM.len_sI, jM.len_sL, jM.len_sR, jM.len_fI, jM.len_fL, jM.len_fR, *]; omega)) (by first | omega | (exact R.r _ _) | (simp only [jM.len_sI, jM.len_sL, jM.len_sR, jM.len_fI, jM.len_fL, jM.len_fR]; omega) | (simp [jM.len_nw, jM.len_sI, jM.len_sL, jM.len_sR, jM.len_fI, jM.len_fL, jM.len_fR, *]; omega)) rfl rfl ?_ ?_
  · exact fun _ _ h => h
  rintro _ _ ⟨rfl, rfl⟩
  by_cases hd : s < V 16 12 ∧ (48 ≤ V 116 s ∧ V 116 s ≤ 57)
  · have e1 : hv (V 116) (V 16 12) s = V 116 s := by unfold hv; rw [if_pos hd.1]
    rw [e1, if_pos hd.2]
    refine J.if_ne (tgt := 22) (pc' := 14) rfl rfl rfl (by first | omega | (exact R.r _ _) | (simp only [jM.len_sI, jM.len_sL, jM.len_sR, jM.len_fI, jM.len_fL, jM.len_fR]; omega) | (simp [jM.len_nw, jM.len_sI, jM.len_sL, jM.len_sR, jM.len_fI, jM.len_fL, jM.len_fR, *]; omega)) (fun c1 => ?_) (fun c1 => ?_)
    · exact loop 5 0 (by omega) s 0 (by omega) sb.2.1 (by omega) (by omega) (by omega) (fun _ => ⟨hd.1, hd.2.1, hd.2.2⟩) (by decide) (numN (V 116) (V 16 12) 5 s 0).1 (numN (V 116) (V 16 12) 5 s 0).2 rfl _ ⟨rfl, rfl, rfl, trivial⟩
    · omega
  · have e1 : ¬ (48 ≤ hv (V 116) (V 16 12) s ∧ hv (V 116) (V 16 12) s ≤ 57) := fun z => by
      unfold hv at z
      split at z
      · rename_i y; exact hd ⟨y, z⟩
      · omega
    have e2 : numN (V 116) (V 16 12) 5 s 0 = (s, 0) := by rw [numN, if_neg hd]
    have e21 : (numN (V 116) (V 16 12) 5 s 0).1 = s := by rw [e2]
    have e22 : (numN (V 116) (V 16 12) 5 s 0).2 = 0 := by rw [e2]
    rw [if_neg e1, e22, if_pos e21]
    refine J.if_ne (tgt := 22) (pc' := 14) rfl rfl rfl (by first | omega | (exact R.r _ _) | (simp only [jM.len_sI, jM.len_sL, jM.len_sR, jM.len_fI, jM.len_fL, jM.len_fR]; omega) | (simp [jM.len_nw, jM.len_sI, jM.len_sL, jM.len_sR, jM.len_fI, jM.len_fL, jM.len_fR, *]; omega)) (fun c1 => ?_) (fun c1 => ?_)
    · omega
    · first | refine J.aload_n (pc' := 15) rfl rfl rfl ?_ | refine J.aload_nN (pc' := 15) rfl rfl rfl ?_
      first | refine J.aload_n (pc' := 16) rfl rfl rfl ?_ | refine J.aload_nN (pc' := 16) rfl rfl rfl ?_
      refine J.mgI (pc' := 19) (j := 13) B rfl fl_X12_191 rfl rfl rfl ?_
      rw [jU_same]
      refine J.callV (pc' := 22) (t := 16) rfl MX12_wrong ml_X12_208 iv_X12_wrong (by decide) ⟨_, rfl, rfl⟩ B.1 (cm_wrong B (R1 s (by omega) sb.2.1)) rfl rfl (Nat.le_of_ble_eq_true rfl) (by first | omega | (exact R.r _ _) | (simp only [jM.len_sI, jM.len_sL, jM.len_sR, jM.len_fI, jM.len_fL, jM.len_fR]; omega) | (simp [jM.len_nw, jM.len_sI, jM.len_sL, jM.len_sR, jM.len_fI, jM.len_fL, jM.len_fR, *]; omega)) (by first | omega | (exact R.r _ _) | (simp only [jM.len_sI, jM.len_sL, jM.len_sR, jM.len_fI, jM.len_fL, jM.len_fR]; omega) | (simp [jM.len_nw, jM.len_sI, jM.len_sL, jM.len_sR, jM.len_fI, jM.len_fL, jM.len_fR, *]; omega)) (by first | omega | (exact R.r _ _) | (simp only [jM.len_sI, jM.len_sL, jM.len_sR, jM.len_fI, jM.len_fL, jM.len_fR]; omega) | (simp [jM.len_nw, jM.len_sI, jM.len_sL, jM.len_sR, jM.len_fI, jM.len_fL, jM.len_fR, *]; omega)) rfl rfl ?_ ?_
      · exact fun _ _ h => h
      rintro _ _ ⟨rfl, rfl⟩
      rw [if_pos (b1 s)]
      exact badq s 0 (by omega) sb.2.1 _ ⟨rfl, rfl, trivial⟩
end M19

