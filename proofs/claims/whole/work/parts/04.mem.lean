def jI (z : Int) : Int32 := Int32.ofInt z
def jL (z : Int) : Int64 := Int64.ofInt z
def jM : Type := (Nat → Nat) × (Nat → Nat) × (Nat → Nat → Nat → Int) × (Nat → Nat → Nat → Int) × (Nat → Nat → Nat → Option Nat)
def jM.tag (h : jM) (a : Nat) : Nat := h.1 a
def jM.len (h : jM) (a : Nat) : Nat := h.2.1 a
def jM.I (h : jM) (t a k : Nat) : Int := h.2.2.1 t a k
def jM.L (h : jM) (t a k : Nat) : Int := h.2.2.2.1 t a k
def jM.R (h : jM) (t a k : Nat) : Option Nat := h.2.2.2.2 t a k
def jM.sI (h : jM) (t a k : Nat) (v : Int) : jM := (h.tag, h.len, fun t' a' k' => if t' = t ∧ a' = a ∧ k' = k then v else h.I t' a' k', h.L, h.R)
def jM.sL (h : jM) (t a k : Nat) (v : Int) : jM := (h.tag, h.len, h.I, fun t' a' k' => if t' = t ∧ a' = a ∧ k' = k then v else h.L t' a' k', h.R)
def jM.sR (h : jM) (t a k : Nat) (v : Option Nat) : jM := (h.tag, h.len, h.I, h.L, fun t' a' k' => if t' = t ∧ a' = a ∧ k' = k then v else h.R t' a' k')
def jM.nw (h : jM) (q t n : Nat) : jM := (fun a => if a = q then t else h.tag a, fun a => if a = q then n else h.len a, fun t' a k => if t' = t ∧ a = q then 0 else h.I t' a k, fun t' a k => if t' = t ∧ a = q then 0 else h.L t' a k, fun t' a k => if t' = t ∧ a = q then none else h.R t' a k)
theorem jM.tag_sI (h : jM) (t a k : Nat) (v : Int) : (h.sI t a k v).tag = h.tag := rfl
theorem jM.tag_sL (h : jM) (t a k : Nat) (v : Int) : (h.sL t a k v).tag = h.tag := rfl
theorem jM.tag_sR (h : jM) (t a k : Nat) (v : Option Nat) : (h.sR t a k v).tag = h.tag := rfl
theorem jM.len_sI (h : jM) (t a k : Nat) (v : Int) : (h.sI t a k v).len = h.len := rfl
theorem jM.len_sL (h : jM) (t a k : Nat) (v : Int) : (h.sL t a k v).len = h.len := rfl
theorem jM.len_sR (h : jM) (t a k : Nat) (v : Option Nat) : (h.sR t a k v).len = h.len := rfl
theorem jM.L_sI (h : jM) (t a k : Nat) (v : Int) : (h.sI t a k v).L = h.L := rfl
theorem jM.R_sI (h : jM) (t a k : Nat) (v : Int) : (h.sI t a k v).R = h.R := rfl
theorem jM.I_sL (h : jM) (t a k : Nat) (v : Int) : (h.sL t a k v).I = h.I := rfl
theorem jM.R_sL (h : jM) (t a k : Nat) (v : Int) : (h.sL t a k v).R = h.R := rfl
theorem jM.I_sR (h : jM) (t a k : Nat) (v : Option Nat) : (h.sR t a k v).I = h.I := rfl
theorem jM.L_sR (h : jM) (t a k : Nat) (v : Option Nat) : (h.sR t a k v).L = h.L := rfl
theorem jM.I_sI (h : jM) (t a k : Nat) (v : Int) (t' a' k' : Nat) : (h.sI t a k v).I t' a' k' = if t' = t ∧ a' = a ∧ k' = k then v else h.I t' a' k' := rfl
theorem jM.L_sL (h : jM) (t a k : Nat) (v : Int) (t' a' k' : Nat) : (h.sL t a k v).L t' a' k' = if t' = t ∧ a' = a ∧ k' = k then v else h.L t' a' k' := rfl
theorem jM.R_sR (h : jM) (t a k : Nat) (v : Option Nat) (t' a' k' : Nat) : (h.sR t a k v).R t' a' k' = if t' = t ∧ a' = a ∧ k' = k then v else h.R t' a' k' := rfl
theorem jM.tag_nw (h : jM) (q t n a : Nat) : (h.nw q t n).tag a = if a = q then t else h.tag a := rfl
theorem jM.len_nw (h : jM) (q t n a : Nat) : (h.nw q t n).len a = if a = q then n else h.len a := rfl
theorem jM.I_nw (h : jM) (q t n t' a k : Nat) : (h.nw q t n).I t' a k = if t' = t ∧ a = q then 0 else h.I t' a k := rfl
theorem jM.L_nw (h : jM) (q t n t' a k : Nat) : (h.nw q t n).L t' a k = if t' = t ∧ a = q then 0 else h.L t' a k := rfl
theorem jM.R_nw (h : jM) (q t n t' a k : Nat) : (h.nw q t n).R t' a k = if t' = t ∧ a = q then none else h.R t' a k := rfl
def jVal (ty : FieldType) (i : Int) (l : Int) (r : Option Nat) : Value := match ty with
  | .long => .long (jL l)
  | .object _ => va_rf r
  | .array _ => va_rf r
  | .float => .float 0
  | .double => .double 0
  | _ => .int (jI i)
def jKi (ty : FieldType) : Bool := match ty with
  | .long => false
  | .object _ => false
  | .array _ => false
  | .float => false
  | .double => false
  | _ => true
def jKr (ty : FieldType) : Bool := match ty with
  | .object _ => true
  | .array _ => true
  | _ => false
theorem jVal_i {ty : FieldType} (h : jKi ty = true) (i : Int) (l : Int) (r : Option Nat) : jVal ty i l r = .int (jI i) := by cases ty <;> first | rfl | (simp [jKi] at h)
theorem jVal_l {ty : FieldType} (h : ty = .long) (i : Int) (l : Int) (r : Option Nat) : jVal ty i l r = .long (jL l) := by subst h; rfl
theorem jVal_r {ty : FieldType} (h : jKr ty = true) (i : Int) (l : Int) (r : Option Nat) : jVal ty i l r = va_rf r := by cases ty <;> first | rfl | (simp [jKr] at h)
def jE (t : Nat) : FieldType := match t with
  | 31 => .array .int
  | 32 => .array .int
  | 33 => .object "ScrapYard$Heap"
  | 34 => .object "java/lang/Object"
  | 35 => .byte
  | 36 => .byte
  | 38 => .long
  | 108 => .boolean
  | 109 => .long
  | 151 => .long
  | _ => .int
def jTy (t k : Nat) : FieldType := match t with
  | 1 => tyJ0 k
  | 2 => tyJ4 k
  | 3 => tyJx4a65c k
  | 4 => tyX0 k
  | 5 => tyX1 k
  | 6 => tyX2 k
  | 7 => tyX3 k
  | 8 => tyX4 k
  | 9 => tyX5 k
  | 10 => tyX6 k
  | 11 => tyX7 k
  | 12 => tyX8 k
  | 13 => tyX9 k
  | 14 => tyX10 k
  | 15 => tyX11 k
  | 16 => tyX12 k
  | t => jE t
def jV (h : jM) (t a k : Nat) : Value := jVal (jTy t k) (h.I t a k) (h.L t a k) (h.R t a k)
def jWr (t : Nat) : Bool := match t with
  | 1 => false
  | 35 => false
  | 36 => false
  | 37 => false
  | _ => true
abbrev jG : Type := Launch × State × va_G × (FieldType → ClassId) × (Nat → Nat)
abbrev jG.l (γ : jG) : Launch := γ.1
abbrev jG.s (γ : jG) : State := γ.2.1
abbrev jG.D (γ : jG) : va_G := γ.2.2.1
abbrev jG.E (γ : jG) : FieldType → ClassId := γ.2.2.2.1
abbrev jG.K (γ : jG) : Nat → Nat := γ.2.2.2.2
abbrev jG.base (γ : jG) : Nat := γ.2.1.heap.size
/-- an array: one of ours as made; one that was there before as far as it is read -/
def arrW (γ : jG) (a : Nat) (ty : FieldType) (n : Nat) (V : Nat → Value) (H : Heap) : Prop := ∃ cell : Cell, H[a]? = some cell ∧ (γ.base ≤ a → cell = arrV (γ.E ty) n V) ∧ (a < γ.base → γ.s.isArrayOf cell ty ∧ cell.vm ≠ .unknown ∧ n ≤ cell.slots.size ∧ cell.slots.size.toInt32 = Int32.ofNat n ∧ (∀ k, k < n → cell.slots[k]? = some (V k)) ∧ (ty = .object "java/lang/Object" → cell.cls = γ.E ty))
theorem arrW.of {γ : jG} {a : Nat} {ty : FieldType} {n : Nat} {V : Nat → Value} {H : Heap} (hb : γ.base ≤ a) (h1 : H[a]? = some (arrV (γ.E ty) n V)) : arrW γ a ty n V H := ⟨_, h1, fun _ => rfl, fun q => absurd q (Nat.not_lt.mpr hb)⟩
/-- an object: one of ours has no word of the machine's own -/
def objW (b o : Nat) (cC : ClassId) (N : Nat) (iS : Nat → Nat) (H : Heap) (V : Nat → Value) : Prop := ∃ cell : Cell, H[o]? = some cell ∧ cell.cls = cC ∧ ((b ≤ o → cell.vm = .none) ∧ cell.vm ≠ .unknown ∧ cell.vm.isStatics = false) ∧ ∀ k, k < N → cell.slots[iS k]? = some (V k)
theorem vmN {b o : Nat} {v : VmData} (h : v = .none) : (b ≤ o → v = .none) ∧ v ≠ .unknown ∧ v.isStatics = false := by
  subst h
  exact ⟨fun _ => rfl, fun q => (by cases q), rfl⟩
theorem objW.of {b o : Nat} {cC : ClassId} {N : Nat} {iS : Nat → Nat} {H : Heap} {V : Nat → Value} (h : t_OB o cC N iS H V) : objW b o cC N iS H V := by
  obtain ⟨cell, h1, h2, h3, h4⟩ := h
  exact ⟨cell, h1, h2, vmN h3, h4⟩
theorem objW.to {b o : Nat} {cC : ClassId} {N : Nat} {iS : Nat → Nat} {H : Heap} {V V' : Nat → Value} (h : objW b o cC N iS H V) (e : ∀ k, k < N → V k = V' k) : objW b o cC N iS H V' := by
  obtain ⟨cell, h1, h2, h3, h4⟩ := h
  exact ⟨cell, h1, h2, h3, fun k hk => by rw [h4 k hk, e k hk]⟩
theorem arrW.cg {γ : jG} {a : Nat} {ty : FieldType} {n : Nat} {V V' : Nat → Value} {H : Heap} (w : arrW γ a ty n V H) (ev : ∀ k, k < n → V' k = V k) : arrW γ a ty n V' H := by
  obtain ⟨cell, h1, h2, h3⟩ := w
  refine ⟨cell, h1, fun q => ?_, fun q => ?_⟩
  · have e2 : (fun j : Fin n => V j.val) = (fun j : Fin n => V' j.val) := funext fun j => (ev j.val j.isLt).symm
    rw [h2 q]
    unfold arrV
    rw [e2]
  · obtain ⟨g1, g2, g3, g4, g5, g6⟩ := h3 q
    exact ⟨g1, g2, g3, g4, fun k hk => by rw [g5 k hk, ev k hk], g6⟩
def jAt (γ : jG) (h : jM) (a : Nat) (H : Heap) : Prop :=
  (h.tag a < 20 → ∃ q : vw_C, vwCl[h.tag a - 1]? = some q ∧ h.len a = q.2.2 ∧ objW γ.base a (γ.D.1 (h.tag a - 1)) q.2.2 (γ.D.2 (h.tag a - 1)) H (jV h (h.tag a) a)) ∧
  (20 ≤ h.tag a → arrW γ a (jE (h.tag a)) (h.len a) (jV h (h.tag a) a) H) ∧
  (jWr (h.tag a) = true → 0 < h.len a → γ.base ≤ a)
def jRH (γ : jG) (h : jM) (H : Heap) : Prop := (∀ q, q < γ.base → H[q]? = γ.s.heap[q]?) ∧ γ.base ≤ H.size ∧ ∀ a, h.tag a ≠ 0 → jAt γ h a H
theorem jAt.lt {γ : jG} {h : jM} {a : Nat} {H : Heap} (hA : jAt γ h a H) : a < H.size := by
  rcases Nat.lt_or_ge (h.tag a) 20 with q | q
  · obtain ⟨_, -, -, cell, h1, -⟩ := hA.1 q
    exact (Array.getElem?_eq_some_iff.mp h1).1
  · obtain ⟨cell, h1, -⟩ := hA.2.1 q
    exact (Array.getElem?_eq_some_iff.mp h1).1
theorem jRH.fresh {γ : jG} {h : jM} {H : Heap} (hR : jRH γ h H) : h.tag H.size = 0 := by
  rcases Nat.eq_zero_or_pos (h.tag H.size) with q | q
  · exact q
  · exact absurd (hR.2.2 H.size (by omega)).lt (by omega)
theorem jAt.kept {γ : jG} {h h' : jM} {a : Nat} {H H' : Heap} (hA : jAt γ h a H) (hq : H'[a]? = H[a]?) (ht : h'.tag a = h.tag a) (hl : h'.len a = h.len a) (hv : jV h' (h.tag a) a = jV h (h.tag a) a) : jAt γ h' a H' := by
  refine ⟨fun q => ?_, fun q => ?_, fun q1 q2 => ?_⟩
  · rw [ht] at q ⊢
    obtain ⟨c, h1, h2, cell, g1, g2⟩ := hA.1 q
    exact ⟨c, h1, by rw [hl]; exact h2, by rw [hv]; exact ⟨cell, hq.trans g1, g2⟩⟩
  · rw [ht] at q ⊢
    rw [hl, hv]
    obtain ⟨cell, g1, g2⟩ := hA.2.1 q
    exact ⟨cell, hq.trans g1, g2⟩
  · rw [ht] at q1
    rw [hl] at q2
    exact hA.2.2 q1 q2
theorem jRH.moved {γ : jG} {h : jM} {H H' : Heap} (hR : jRH γ h H) (hs : H.size ≤ H'.size) (hq : ∀ q, q < H.size → H'[q]? = H[q]?) : jRH γ h H' :=
  ⟨fun q h1 => (hq q (Nat.lt_of_lt_of_le h1 hR.2.1)).trans (hR.1 q h1), Nat.le_trans hR.2.1 hs, fun a ha => (hR.2.2 a ha).kept (hq a (hR.2.2 a ha).lt) rfl rfl rfl⟩
theorem jRH.set {γ : jG} {h h' : jM} {a : Nat} {H H' : Heap} (hR : jRH γ h H) (ht : h'.tag = h.tag) (hl : h'.len = h.len) (hb : γ.base ≤ a) (hv : ∀ b, b ≠ a → ∀ t, jV h' t b = jV h t b) (ho : ∀ q, q ≠ a → H'[q]? = H[q]?) (hs : H'.size = H.size) (hA : h.tag a ≠ 0 → jAt γ h' a H') : jRH γ h' H' := by
  refine ⟨fun q h1 => (ho q (by omega)).trans (hR.1 q h1), by rw [hs]; exact hR.2.1, fun b hn => ?_⟩
  rw [ht] at hn
  by_cases e : b = a
  · subst e
    exact hA hn
  · exact (hR.2.2 b hn).kept (ho b e) (by rw [ht]) (by rw [hl]) (hv b e _)
theorem jV_sI {h : jM} {t a k : Nat} {x : Int} (hk : jKi (jTy t k) = true) : jV (h.sI t a k x) t a = updV (jV h t a) k (.int (jI x)) := by
  funext j
  unfold updV jV
  by_cases e : j = k
  · subst e
    rw [if_pos rfl, jVal_i hk, jM.I_sI, if_pos ⟨rfl, rfl, rfl⟩]
  · rw [if_neg e, jM.I_sI, if_neg (fun q => e q.2.2), jM.L_sI, jM.R_sI]
theorem jV_sL {h : jM} {t a k : Nat} {x : Int} (hk : jTy t k = .long) : jV (h.sL t a k x) t a = updV (jV h t a) k (.long (jL x)) := by
  funext j
  unfold updV jV
  by_cases e : j = k
  · subst e
    rw [if_pos rfl, jVal_l hk, jM.L_sL, if_pos ⟨rfl, rfl, rfl⟩]
  · rw [if_neg e, jM.L_sL, if_neg (fun q => e q.2.2), jM.I_sL, jM.R_sL]
theorem jV_sR {h : jM} {t a k : Nat} {x : Option Nat} (hk : jKr (jTy t k) = true) : jV (h.sR t a k x) t a = updV (jV h t a) k (va_rf x) := by
  funext j
  unfold updV jV
  by_cases e : j = k
  · subst e
    rw [if_pos rfl, jVal_r hk, jM.R_sR, if_pos ⟨rfl, rfl, rfl⟩]
  · rw [if_neg e, jM.R_sR, if_neg (fun q => e q.2.2), jM.I_sR, jM.L_sR]
theorem jV_oI {h : jM} {t a k : Nat} {x : Int} {b : Nat} (hb : b ≠ a) (t' : Nat) : jV (h.sI t a k x) t' b = jV h t' b := by
  funext j
  unfold jV
  rw [jM.I_sI, if_neg (fun q => hb q.2.1), jM.L_sI, jM.R_sI]
theorem jV_oL {h : jM} {t a k : Nat} {x : Int} {b : Nat} (hb : b ≠ a) (t' : Nat) : jV (h.sL t a k x) t' b = jV h t' b := by
  funext j
  unfold jV
  rw [jM.L_sL, if_neg (fun q => hb q.2.1), jM.I_sL, jM.R_sL]
theorem jV_oR {h : jM} {t a k : Nat} {x : Option Nat} {b : Nat} (hb : b ≠ a) (t' : Nat) : jV (h.sR t a k x) t' b = jV h t' b := by
  funext j
  unfold jV
  rw [jM.R_sR, if_neg (fun q => hb q.2.1), jM.I_sR, jM.L_sR]
/-- an array written at one place -/
theorem jRH.arr {γ : jG} {h h' : jM} {a k : Nat} {v : Value} {H H' : Heap} (hR : jRH γ h H) (ht : h'.tag = h.tag) (hl : h'.len = h.len) (hb : γ.base ≤ a) (hv : ∀ b, b ≠ a → ∀ t, jV h' t b = jV h t b) (hu : jV h' (h.tag a) a = updV (jV h (h.tag a) a) k v) (h20 : 20 ≤ h.tag a)
    (h1 : H'[a]? = some ((arrV (γ.E (jE (h.tag a))) (h.len a) (jV h (h.tag a) a)).setSlot k v)) (ho : ∀ q, q ≠ a → H'[q]? = H[q]?) (hs : H'.size = H.size) : jRH γ h' H' := by
  refine hR.set ht hl hb hv ho hs fun hn => ⟨fun q => ?_, fun _ => ?_, fun _ _ => hb⟩
  · rw [ht] at q
    omega
  · refine arrW.of hb ?_
    rw [ht, hl, h1, hu, arrV_store]
/-- an object written at one field -/
theorem jRH.obj {γ : jG} {h h' : jM} {a k : Nat} {v : Value} {H H' : Heap} {cell : Cell} {q : vw_C} (hR : jRH γ h H) (ht : h'.tag = h.tag) (hl : h'.len = h.len) (hb : γ.base ≤ a) (hv : ∀ b, b ≠ a → ∀ t, jV h' t b = jV h t b) (hu : jV h' (h.tag a) a = updV (jV h (h.tag a) a) k v) (h20 : h.tag a < 20)
    (hq : vwCl[h.tag a - 1]? = some q) (hlen : h.len a = q.2.2) (hk : k < q.2.2) (hap : ∀ x y, x < q.2.2 → y < q.2.2 → x ≠ y → γ.D.2 (h.tag a - 1) x ≠ γ.D.2 (h.tag a - 1) y) (hc : cell.cls = γ.D.1 (h.tag a - 1)) (hvm : cell.vm = .none) (hf : ∀ j, j < q.2.2 → cell.slots[γ.D.2 (h.tag a - 1) j]? = some (jV h (h.tag a) a j))
    (h1 : H'[a]? = some (cell.setSlot (γ.D.2 (h.tag a - 1) k) v)) (ho : ∀ q, q ≠ a → H'[q]? = H[q]?) (hs : H'.size = H.size) : jRH γ h' H' := by
  refine hR.set ht hl hb hv ho hs fun hn => ⟨fun _ => ?_, fun q => ?_, fun _ _ => hb⟩
  · rw [ht, hl, hu]
    exact ⟨q, hq, hlen, _, h1, hc, vmN hvm, t_set hf hap hk v⟩
  · rw [ht] at q
    omega
/-- a new cell -/
theorem jRH.new {γ : jG} {h : jM} {t n : Nat} {H H' : Heap} (hR : jRH γ h H) (hs : H'.size = H.size + 1) (ho : ∀ q, q < H.size → H'[q]? = H[q]?) (hA : jAt γ (h.nw H.size t n) H.size H') : jRH γ (h.nw H.size t n) H' := by
  refine ⟨fun q h1 => (ho q (Nat.lt_of_lt_of_le h1 hR.2.1)).trans (hR.1 q h1), by rw [hs]; exact Nat.le_succ_of_le hR.2.1, fun b hb => ?_⟩
  by_cases e : b = H.size
  · subst e
    exact hA
  · rw [jM.tag_nw, if_neg e] at hb
    refine (hR.2.2 b hb).kept (ho b (hR.2.2 b hb).lt) (by rw [jM.tag_nw, if_neg e]) (by rw [jM.len_nw, if_neg e]) ?_
    funext j
    unfold jV
    rw [jM.I_nw, jM.L_nw, jM.R_nw, if_neg (fun q => e q.2), if_neg (fun q => e q.2), if_neg (fun q => e q.2)]
