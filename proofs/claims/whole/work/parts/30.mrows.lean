/-- the model's state: its region, its place -/
abbrev VV : Type := Nat → Int → Int
def jMi (t : Nat) : Bool := (Nat.beq t 16 || Nat.ble 100 t) && (!Nat.beq t 109 && !Nat.beq t 151)
def jMl (t : Nat) : Bool := Nat.beq t 109 || Nat.beq t 151
abbrev jB : Type := jM × (Nat → Nat)
/-- the memory β.1 with the model's state V in it; β.2: where its object and arrays are -/
def jP (β : jB) (V : VV) : jM := (β.1.tag, β.1.len, fun t a k => if jMi t = true ∧ a = β.2 t then V t (k : Int) else β.1.I t a k, fun t a k => if jMl t = true ∧ a = β.2 t then V t (k : Int) else β.1.L t a k, β.1.R)
def jU (V : VV) (t : Nat) (i x : Int) : VV := fun t' i' => if t' = t ∧ i' = i then x else V t' i'
theorem jU_same (V : VV) (t : Nat) (i x : Int) : jU V t i x t i = x := if_pos ⟨rfl, rfl⟩
theorem jU_ne (V : VV) {t t' : Nat} {i i' : Int} (x : Int) (h : t' ≠ t ∨ i' ≠ i) : jU V t i x t' i' = V t' i' := if_neg (fun q => by rcases h with h | h; exact h q.1; exact h q.2)
theorem jU_at (V : VV) (t : Nat) (i x : Int) (i' : Int) : jU V t i x t i' = if i' = i then x else V t i' := by
  unfold jU
  by_cases e : i' = i
  · rw [if_pos ⟨rfl, e⟩, if_pos e]
  · rw [if_neg (fun q => e q.2), if_neg e]
theorem jU_id (V : VV) {t : Nat} {i x : Int} (h : V t i = x) : jU V t i x = V := by
  funext t' i'
  unfold jU
  split
  · rename_i q
    rw [q.1, q.2, h]
  · rfl
theorem jU_jU (V : VV) {t : Nat} {i x y : Int} : jU (jU V t i x) t i y = jU V t i y := by
  funext t' i'
  unfold jU
  split
  · rfl
  · rfl
def jLn (t : Nat) : Nat := match t with
  | 104 => 50 | 105 => 50 | 106 => 400 | 107 => 400 | 108 => 400 | 109 => 8
  | 116 => 400 | 117 => 20 | 118 => 20 | 119 => 21 | 120 => 21 | 121 => 252 | 122 => 273 | 123 => 2100 | 124 => 2100 | 125 => 2100
  | 127 => 100 | 128 => 100 | 129 => 100 | 130 => 100 | 131 => 100 | 132 => 100 | 133 => 100 | 134 => 505 | 135 => 505
  | 138 => 6 | 139 => 246 | 140 => 246 | 141 => 246 | 142 => 1230 | 143 => 1230 | 144 => 5 | 145 => 5 | 146 => 5 | 147 => 5 | 148 => 6 | 149 => 6 | 150 => 6 | 151 => 1386
  | 153 => 30 | 154 => 600 | 155 => 600 | 156 => 3000 | 157 => 3000 | 158 => 20 | 159 => 20
  | _ => 0
theorem jLn_le (t : Nat) : jLn t ≤ 3000 := by unfold jLn; split <;> omega
def isB (β : jB) : Prop := β.1.tag (β.2 16) = 16 ∧ ∀ t, jLn t ≠ 0 → β.1.tag (β.2 t) = t ∧ β.1.len (β.2 t) = jLn t ∧ β.1.R 16 (β.2 16) (t - 100) = some (β.2 t)
theorem jLn_ge {t : Nat} (h : jLn t ≠ 0) : 100 ≤ t := by
  rcases Nat.lt_or_ge t 100 with q | q
  · exfalso
    apply h
    unfold jLn
    split <;> omega
  · exact q
section MR
variable {γ : jG} {μ : jMth} {f mc ms cells slots : Nat} {pc : Nat} {lv : List (Nat × Value)} {st : List Value} {Q : Option Value → jM → Prop} {X : String → jM → Prop} {β : jB} {V : VV}
theorem jMil {t t' : Nat} (h1 : jMi t' = true) (ht : jMl t = true) : t' ≠ t := fun h2 => by
  subst h2
  unfold jMi at h1
  unfold jMl at ht
  revert h1 ht
  cases Nat.beq t' 16 <;> cases Nat.ble 100 t' <;> cases Nat.beq t' 109 <;> cases Nat.beq t' 151 <;> simp
theorem jP_sI {t : Nat} {i x : Int} (ht : jMi t = true) (hi : 0 ≤ i) : (jP β V).sI t (β.2 t) i.toNat x = jP β (jU V t i x) := by
  refine jM.ext rfl rfl ?_ ?_ rfl
  · funext t' a k
    show (if t' = t ∧ a = β.2 t ∧ k = i.toNat then x else if jMi t' = true ∧ a = β.2 t' then V t' (k : Int) else β.1.I t' a k) = if jMi t' = true ∧ a = β.2 t' then jU V t i x t' (k : Int) else β.1.I t' a k
    by_cases e : t' = t ∧ a = β.2 t ∧ k = i.toNat
    · obtain ⟨rfl, rfl, rfl⟩ := e
      rw [if_pos ⟨rfl, rfl, rfl⟩, if_pos ⟨ht, rfl⟩, Int.toNat_of_nonneg hi, jU_same]
    · rw [if_neg e]
      by_cases e2 : jMi t' = true ∧ a = β.2 t'
      · rw [if_pos e2, if_pos e2, jU, if_neg]
        rintro ⟨rfl, q⟩
        exact e ⟨rfl, e2.2, by omega⟩
      · rw [if_neg e2, if_neg e2]
  · funext t' a k
    show (if jMl t' = true ∧ a = β.2 t' then V t' (k : Int) else β.1.L t' a k) = if jMl t' = true ∧ a = β.2 t' then jU V t i x t' (k : Int) else β.1.L t' a k
    by_cases e2 : jMl t' = true ∧ a = β.2 t'
    · rw [if_pos e2, if_pos e2, jU_ne _ _ (Or.inl (fun q => jMil ht e2.1 q.symm))]
    · rw [if_neg e2, if_neg e2]
theorem jP_sL {t : Nat} {i x : Int} (ht : jMl t = true) (hi : 0 ≤ i) : (jP β V).sL t (β.2 t) i.toNat x = jP β (jU V t i x) := by
  have hn : ∀ t', jMi t' = true → t' ≠ t := fun t' h1 => jMil h1 ht
  refine jM.ext rfl rfl ?_ ?_ rfl
  · funext t' a k
    show (if jMi t' = true ∧ a = β.2 t' then V t' (k : Int) else β.1.I t' a k) = if jMi t' = true ∧ a = β.2 t' then jU V t i x t' (k : Int) else β.1.I t' a k
    by_cases e2 : jMi t' = true ∧ a = β.2 t'
    · rw [if_pos e2, if_pos e2, jU_ne _ _ (Or.inl (hn t' e2.1))]
    · rw [if_neg e2, if_neg e2]
  · funext t' a k
    show (if t' = t ∧ a = β.2 t ∧ k = i.toNat then x else if jMl t' = true ∧ a = β.2 t' then V t' (k : Int) else β.1.L t' a k) = if jMl t' = true ∧ a = β.2 t' then jU V t i x t' (k : Int) else β.1.L t' a k
    by_cases e : t' = t ∧ a = β.2 t ∧ k = i.toNat
    · obtain ⟨rfl, rfl, rfl⟩ := e
      rw [if_pos ⟨rfl, rfl, rfl⟩, if_pos ⟨ht, rfl⟩, Int.toNat_of_nonneg hi, jU_same]
    · rw [if_neg e]
      by_cases e2 : jMl t' = true ∧ a = β.2 t'
      · rw [if_pos e2, if_pos e2, jU, if_neg]
        rintro ⟨rfl, q⟩
        exact e ⟨rfl, e2.2, by omega⟩
      · rw [if_neg e2, if_neg e2]
theorem jP_I {t : Nat} {i : Int} (ht : jMi t = true) (hi : 0 ≤ i) : (jP β V).I t (β.2 t) i.toNat = V t i := by
  show (if jMi t = true ∧ β.2 t = β.2 t then V t (i.toNat : Int) else _) = _
  rw [if_pos ⟨ht, rfl⟩, Int.toNat_of_nonneg hi]
theorem jP_L {t : Nat} {i : Int} (ht : jMl t = true) (hi : 0 ≤ i) : (jP β V).L t (β.2 t) i.toNat = V t i := by
  show (if jMl t = true ∧ β.2 t = β.2 t then V t (i.toNat : Int) else _) = _
  rw [if_pos ⟨ht, rfl⟩, Int.toNat_of_nonneg hi]
theorem J.mgI {idx k : Nat} {j : Int} {pc' : Nat} (B : isB β) (hc : μ.cm pc = some (.getfield idx, 3)) (hf : jFl μ.y.cls idx 16 k) (hk : jKi (jTy 16 k) = true) (hj : (k : Int) = j) (hp : pc + 3 = pc') (kk : J γ μ f mc ms cells slots (jP β V) pc' lv (.int (jI (V 16 j)) :: st) Q X) : J γ μ f mc ms cells slots (jP β V) pc lv (.ref (β.2 16) :: st) Q X := by
  refine J.getI hc hf hk B.1 hp ?_
  have h := jP_I (β := β) (V := V) (t := 16) (i := (k : Int)) rfl (by omega)
  rw [Int.toNat_natCast] at h
  rw [h, hj]
  exact kk
theorem J.mgR {idx k t : Nat} {pc' : Nat} (B : isB β) (hc : μ.cm pc = some (.getfield idx, 3)) (hf : jFl μ.y.cls idx 16 k) (hk : jKr (jTy 16 k) = true) (ht : 100 + k = t) (hn : jLn t ≠ 0) (hp : pc + 3 = pc') (kk : J γ μ f mc ms cells slots (jP β V) pc' lv (.ref (β.2 t) :: st) Q X) : J γ μ f mc ms cells slots (jP β V) pc lv (.ref (β.2 16) :: st) Q X := by
  refine J.getR (b := β.2 t) hc hf hk B.1 ?_ hp kk
  have h := (B.2 t hn).2.2
  rw [← ht, show 100 + k - 100 = k by omega] at h
  rw [← ht]
  exact h
theorem J.mpI {idx k : Nat} {j z : Int} {pc' : Nat} (B : isB β) (hc : μ.cm pc = some (.putfield idx, 3)) (hf : jFl μ.y.cls idx 16 k) (hk : jTy 16 k = .int) (hfin : jFin 16 k = false) (hj : (k : Int) = j) (hp : pc + 3 = pc') (kk : J γ μ f mc ms cells slots (jP β (jU V 16 j z)) pc' lv st Q X) : J γ μ f mc ms cells slots (jP β V) pc lv (.int (jI z) :: .ref (β.2 16) :: st) Q X := by
  refine J.putI hc hf hk (Or.inl hfin) B.1 (Or.inl rfl) hp ?_
  have h := jP_sI (β := β) (V := V) (t := 16) (i := (k : Int)) (x := z) rfl (by omega)
  rw [Int.toNat_natCast] at h
  rw [h, hj]
  exact kk
theorem J.mald {t : Nat} {i : Int} {pc' : Nat} (B : isB β) (hc : μ.cm pc = some (.iaload, 1)) (hm : jMi t = true) (hty : jE t = .int) (hi0 : 0 ≤ i) (hi : i < (jLn t : Int)) (hp : pc + 1 = pc') (kk : J γ μ f mc ms cells slots (jP β V) pc' lv (.int (jI (V t i)) :: st) Q X) : J γ μ f mc ms cells slots (jP β V) pc lv (.int (jI i) :: .ref (β.2 t) :: st) Q X := by
  have h0 : jLn t ≠ 0 := by omega
  have h1 := jLn_le t
  refine J.iald hc (B.2 t h0).1 (by have := jLn_ge h0; omega) hty hi0 (by show i < (β.1.len (β.2 t) : Int); rw [(B.2 t h0).2.1]; exact hi) (by omega) hp ?_
  rw [jP_I hm hi0]
  exact kk
theorem J.mzald {t : Nat} {i : Int} {pc' : Nat} (B : isB β) (hc : μ.cm pc = some (.baload, 1)) (hm : jMi t = true) (hty : jE t = .boolean) (hi0 : 0 ≤ i) (hi : i < (jLn t : Int)) (hp : pc + 1 = pc') (kk : J γ μ f mc ms cells slots (jP β V) pc' lv (.int (jI (V t i)) :: st) Q X) : J γ μ f mc ms cells slots (jP β V) pc lv (.int (jI i) :: .ref (β.2 t) :: st) Q X := by
  have h0 : jLn t ≠ 0 := by omega
  have h1 := jLn_le t
  refine J.zald hc (B.2 t h0).1 (by have := jLn_ge h0; omega) hty hi0 (by show i < (β.1.len (β.2 t) : Int); rw [(B.2 t h0).2.1]; exact hi) (by omega) hp ?_
  rw [jP_I hm hi0]
  exact kk
theorem J.mlald {t : Nat} {i : Int} {pc' : Nat} (B : isB β) (hc : μ.cm pc = some (.laload, 1)) (hm : jMl t = true) (hty : jE t = .long) (hi0 : 0 ≤ i) (hi : i < (jLn t : Int)) (hp : pc + 1 = pc') (kk : J γ μ f mc ms cells slots (jP β V) pc' lv (.long (jL (V t i)) :: st) Q X) : J γ μ f mc ms cells slots (jP β V) pc lv (.int (jI i) :: .ref (β.2 t) :: st) Q X := by
  have h0 : jLn t ≠ 0 := by omega
  have h1 := jLn_le t
  refine J.lald hc (B.2 t h0).1 (by have := jLn_ge h0; omega) hty hi0 (by show i < (β.1.len (β.2 t) : Int); rw [(B.2 t h0).2.1]; exact hi) (by omega) hp ?_
  rw [jP_L hm hi0]
  exact kk
theorem J.mast {t : Nat} {i z : Int} {pc' : Nat} (B : isB β) (hc : μ.cm pc = some (.iastore, 1)) (hm : jMi t = true) (hty : jE t = .int) (hw : jWr t = true) (hi0 : 0 ≤ i) (hi : i < (jLn t : Int)) (hp : pc + 1 = pc') (kk : J γ μ f mc ms cells slots (jP β (jU V t i z)) pc' lv st Q X) : J γ μ f mc ms cells slots (jP β V) pc lv (.int (jI z) :: .int (jI i) :: .ref (β.2 t) :: st) Q X := by
  have h0 : jLn t ≠ 0 := by omega
  have h1 := jLn_le t
  refine J.iast hc (B.2 t h0).1 (by have := jLn_ge h0; omega) hty hi0 (by show i < (β.1.len (β.2 t) : Int); rw [(B.2 t h0).2.1]; exact hi) (by omega) (Or.inl hw) hp ?_
  rw [jP_sI hm hi0]
  exact kk
theorem J.mzast {t : Nat} {i z : Int} {pc' : Nat} (B : isB β) (hc : μ.cm pc = some (.bastore, 1)) (hm : jMi t = true) (hty : jE t = .boolean) (hz : narrow .boolean (.int (jI z)) = .int (jI z)) (hw : jWr t = true) (hi0 : 0 ≤ i) (hi : i < (jLn t : Int)) (hp : pc + 1 = pc') (kk : J γ μ f mc ms cells slots (jP β (jU V t i z)) pc' lv st Q X) : J γ μ f mc ms cells slots (jP β V) pc lv (.int (jI z) :: .int (jI i) :: .ref (β.2 t) :: st) Q X := by
  have h0 : jLn t ≠ 0 := by omega
  have h1 := jLn_le t
  refine J.zast hc (B.2 t h0).1 (by have := jLn_ge h0; omega) hty hz hi0 (by show i < (β.1.len (β.2 t) : Int); rw [(B.2 t h0).2.1]; exact hi) (by omega) (Or.inl hw) hp ?_
  rw [jP_sI hm hi0]
  exact kk
theorem J.mlast {t : Nat} {i z : Int} {pc' : Nat} (B : isB β) (hc : μ.cm pc = some (.lastore, 1)) (hm : jMl t = true) (hty : jE t = .long) (hw : jWr t = true) (hi0 : 0 ≤ i) (hi : i < (jLn t : Int)) (hp : pc + 1 = pc') (kk : J γ μ f mc ms cells slots (jP β (jU V t i z)) pc' lv st Q X) : J γ μ f mc ms cells slots (jP β V) pc lv (.long (jL z) :: .int (jI i) :: .ref (β.2 t) :: st) Q X := by
  have h0 : jLn t ≠ 0 := by omega
  have h1 := jLn_le t
  refine J.last hc (B.2 t h0).1 (by have := jLn_ge h0; omega) hty hi0 (by show i < (β.1.len (β.2 t) : Int); rw [(B.2 t h0).2.1]; exact hi) (by omega) (Or.inl hw) hp ?_
  rw [jP_sL hm hi0]
  exact kk
def jNth : List Nat → Nat → Nat
  | [], _ => 0
  | a :: _, 0 => a
  | _ :: t, n + 1 => jNth t n
theorem J.tsw {dflt lo hi : Int} {offs : Array Int} {len n : Nat} {x : Int} {tgt : Nat} {h : jM} {T : Nat → Nat} (hc : μ.cm pc = some (.tableswitch dflt lo hi offs, len)) (hx : r32 x) (hd : (pc : Int) + dflt = (tgt : Int)) (hn : hi - lo + 1 = (n : Int)) (hT : ∀ k, k < n → ∃ o, offs[k]? = some o ∧ (pc : Int) + o = (T k : Int)) (kO : x < lo ∨ hi < x → J γ μ f mc ms cells slots h tgt lv st Q X) (kI : ∀ k : Nat, k < n → x = lo + (k : Int) → J γ μ f mc ms cells slots h (T k) lv st Q X) : J γ μ f mc ms cells slots h pc lv (.int (jI x) :: st) Q X := by
  by_cases h1 : x < lo
  · exact J.tableOut hc hx (Or.inl h1) hd (kO (Or.inl h1))
  · by_cases h2 : hi < x
    · exact J.tableOut hc hx (Or.inr h2) hd (kO (Or.inr h2))
    · obtain ⟨o, e1, e2⟩ := hT (x - lo).toNat (by omega)
      exact J.tableIn hc hx h1 h2 e1 e2 (kI _ (by omega) (by omega))
end MR

