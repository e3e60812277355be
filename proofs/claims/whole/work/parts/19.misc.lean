theorem jObj_i : Cond.instanceMethod objectInit ∈ lw_tbl := by decide +kernel
set_option maxRecDepth 100000 in
theorem jObj_c : Cond.code objectInit ⟨#[0xb1]⟩ 1 none ∈ lw_tbl := List.mem_of_getElem? (i := 105) rfl
theorem J.alenT {γ : jG} {μ : jMth} {f mc ms cells slots : Nat} {h : jM} {pc : Nat} {lv : List (Nat × Value)} {st : List Value} {Q : Option Value → jM → Prop} {X : String → jM → Prop} {a t : Nat} {pc' : Nat} (hc : μ.cm pc = some (.arraylength, 1)) (ha : h.tag a = t) (h20 : 20 ≤ t) (hty : jE t ∈ jTys) (hp : pc + 1 = pc') (kk : J γ μ f mc ms cells slots h pc' lv (.int (jI (h.len a)) :: st) Q X) : J γ μ f mc ms cells slots h pc lv (.ref a :: st) Q X := by
  subst ha
  exact J.alen hc h20 hty hp kk
abbrev X0 : String → jM → Prop := fun _ _ => False
def jM.fI (h : jM) (t a : Nat) (F : Nat → Int) : jM := (h.tag, h.len, fun t' a' k' => if t' = t ∧ a' = a then F k' else h.I t' a' k', h.L, h.R)
def jM.fL (h : jM) (t a : Nat) (F : Nat → Int) : jM := (h.tag, h.len, h.I, fun t' a' k' => if t' = t ∧ a' = a then F k' else h.L t' a' k', h.R)
def jM.fR (h : jM) (t a : Nat) (F : Nat → Option Nat) : jM := (h.tag, h.len, h.I, h.L, fun t' a' k' => if t' = t ∧ a' = a then F k' else h.R t' a' k')
theorem jM.tag_fI (h : jM) (t a : Nat) (F : Nat → Int) : (h.fI t a F).tag = h.tag := rfl
theorem jM.len_fI (h : jM) (t a : Nat) (F : Nat → Int) : (h.fI t a F).len = h.len := rfl
theorem jM.L_fI (h : jM) (t a : Nat) (F : Nat → Int) : (h.fI t a F).L = h.L := rfl
theorem jM.R_fI (h : jM) (t a : Nat) (F : Nat → Int) : (h.fI t a F).R = h.R := rfl
theorem jM.I_fI (h : jM) (t a : Nat) (F : Nat → Int) (t' a' k' : Nat) : (h.fI t a F).I t' a' k' = if t' = t ∧ a' = a then F k' else h.I t' a' k' := rfl
theorem jM.tag_fL (h : jM) (t a : Nat) (F : Nat → Int) : (h.fL t a F).tag = h.tag := rfl
theorem jM.len_fL (h : jM) (t a : Nat) (F : Nat → Int) : (h.fL t a F).len = h.len := rfl
theorem jM.I_fL (h : jM) (t a : Nat) (F : Nat → Int) : (h.fL t a F).I = h.I := rfl
theorem jM.R_fL (h : jM) (t a : Nat) (F : Nat → Int) : (h.fL t a F).R = h.R := rfl
theorem jM.L_fL (h : jM) (t a : Nat) (F : Nat → Int) (t' a' k' : Nat) : (h.fL t a F).L t' a' k' = if t' = t ∧ a' = a then F k' else h.L t' a' k' := rfl
theorem jM.tag_fR (h : jM) (t a : Nat) (F : Nat → Option Nat) : (h.fR t a F).tag = h.tag := rfl
theorem jM.len_fR (h : jM) (t a : Nat) (F : Nat → Option Nat) : (h.fR t a F).len = h.len := rfl
theorem jM.I_fR (h : jM) (t a : Nat) (F : Nat → Option Nat) : (h.fR t a F).I = h.I := rfl
theorem jM.L_fR (h : jM) (t a : Nat) (F : Nat → Option Nat) : (h.fR t a F).L = h.L := rfl
theorem jM.R_fR (h : jM) (t a : Nat) (F : Nat → Option Nat) (t' a' k' : Nat) : (h.fR t a F).R t' a' k' = if t' = t ∧ a' = a then F k' else h.R t' a' k' := rfl
theorem jM.ext {h h' : jM} (h1 : h.tag = h'.tag) (h2 : h.len = h'.len) (h3 : h.I = h'.I) (h4 : h.L = h'.L) (h5 : h.R = h'.R) : h = h' := Prod.ext h1 (Prod.ext h2 (Prod.ext h3 (Prod.ext h4 h5)))
theorem jM.fI_of {h : jM} {t a : Nat} {F : Nat → Int} (hF : ∀ k, F k = h.I t a k) : h.fI t a F = h := by
  refine jM.ext rfl rfl ?_ rfl rfl
  funext t' a' k'
  rw [jM.I_fI]
  split
  · rename_i e
    rw [e.1, e.2, hF]
  · rfl
theorem jM.fL_of {h : jM} {t a : Nat} {F : Nat → Int} (hF : ∀ k, F k = h.L t a k) : h.fL t a F = h := by
  refine jM.ext rfl rfl rfl ?_ rfl
  funext t' a' k'
  rw [jM.L_fL]
  split
  · rename_i e
    rw [e.1, e.2, hF]
  · rfl
theorem jM.fR_of {h : jM} {t a : Nat} {F : Nat → Option Nat} (hF : ∀ k, F k = h.R t a k) : h.fR t a F = h := by
  refine jM.ext rfl rfl rfl rfl ?_
  funext t' a' k'
  rw [jM.R_fR]
  split
  · rename_i e
    rw [e.1, e.2, hF]
  · rfl
theorem jM.fI_sI {h : jM} {t a k : Nat} {v : Int} {F G : Nat → Int} (hG : ∀ j, G j = if j = k then v else F j) : (h.fI t a F).sI t a k v = h.fI t a G := by
  refine jM.ext rfl rfl ?_ rfl rfl
  funext t' a' k'
  rw [jM.I_sI, jM.I_fI, jM.I_fI]
  by_cases e : t' = t ∧ a' = a
  · obtain ⟨rfl, rfl⟩ := e
    simp [hG]
  · rw [if_neg e, if_neg e, if_neg (fun q => e ⟨q.1, q.2.1⟩)]
theorem jM.fL_sL {h : jM} {t a k : Nat} {v : Int} {F G : Nat → Int} (hG : ∀ j, G j = if j = k then v else F j) : (h.fL t a F).sL t a k v = h.fL t a G := by
  refine jM.ext rfl rfl rfl ?_ rfl
  funext t' a' k'
  rw [jM.L_sL, jM.L_fL, jM.L_fL]
  by_cases e : t' = t ∧ a' = a
  · obtain ⟨rfl, rfl⟩ := e
    simp [hG]
  · rw [if_neg e, if_neg e, if_neg (fun q => e ⟨q.1, q.2.1⟩)]
theorem jM.fR_sR {h : jM} {t a k : Nat} {v : Option Nat} {F G : Nat → Option Nat} (hG : ∀ j, G j = if j = k then v else F j) : (h.fR t a F).sR t a k v = h.fR t a G := by
  refine jM.ext rfl rfl rfl rfl ?_
  funext t' a' k'
  rw [jM.R_sR, jM.R_fR, jM.R_fR]
  by_cases e : t' = t ∧ a' = a
  · obtain ⟨rfl, rfl⟩ := e
    simp [hG]
  · rw [if_neg e, if_neg e, if_neg (fun q => e ⟨q.1, q.2.1⟩)]
theorem jM.sI_fI {h : jM} {t a k : Nat} {v : Int} {G : Nat → Int} (hG : ∀ j, G j = if j = k then v else h.I t a j) : h.sI t a k v = h.fI t a G := by
  rw [← jM.fI_of (h := h) (t := t) (a := a) (F := h.I t a) (fun _ => rfl)]
  rw [jM.fI_sI hG]
  refine jM.ext rfl rfl ?_ rfl rfl
  funext t' a' k'
  simp only [jM.I_fI]
  split <;> rfl

