
theorem jI_inr {z : Int} {n : Nat} (hz : r32 z) (h0 : 0 ≤ z) (h : z < n) : vp_in (jI z) n := by
  rw [vp_in_iff, jI_toInt hz]
  exact ⟨h0, h⟩
theorem jI_ix {z : Int} (hz : r32 z) (h0 : 0 ≤ z) : (jI z).toNatClampNeg = z.toNat := jI_nat h0 (by omega)
def jFl (own : String) (idx t k : Nat) : Prop := 0 < t ∧ t < 20 ∧ ∃ q : vw_C, vwCl[t - 1]? = some q ∧ k < q.2.2 ∧
  ((∃ ref, Cond.fieldLink own idx ref (q.2.1 k).2.1 (q.2.1 k).2.2.1 ∈ lw_tbl ∧ (ref = (q.2.1 k).1 ∨ (Cond.sameField ref (q.2.1 k).1 (q.2.1 k).2.1 (q.2.1 k).2.2.1 ∈ lw_tbl ∧ goodWord (Cond.sameField ref (q.2.1 k).1 (q.2.1 k).2.1 (q.2.1 k).2.2.1) = true))) ∨
    ∃ host, Cond.fieldLinkNest own idx (q.2.1 k).1 (q.2.1 k).2.1 (q.2.1 k).2.2.1 host ∈ lw_tbl)
def jFin (t k : Nat) : Bool := match vwCl[t - 1]? with
  | some q => (q.2.1 k).2.2.2
  | none => true
def jDecl (t k : Nat) : String := match vwCl[t - 1]? with
  | some q => (q.2.1 k).1
  | none => ""
section HP
variable {γ : jG} {μ : jMth} {p : Program} {e : Env} {R : Room} {s : State} {m : MethodId} {args : Array Value} {below : List Frame} {meth : Method} {c : Code} {H : Heap} {locs : List Loc} {cells slots : Nat} {QQ : State → Prop} {h : jM} {pc : Nat} {ls : Array Slot} {st : List Value}
theorem jC.lays (C : jC γ μ p s m meth c) {i : Nat} {q : vw_C} (hq : vwCl[i]? = some q) : ∀ w ∈ u_ws q.1 q.2.1 q.2.2, w.before args s = true := fun w hw => C.w (jLays hq w hw).1 (jLays hq w hw).2
theorem jGetF (C : jC γ μ p s m meth c) (hH : jRH γ h H) {idx t k a : Nat} (hf : jFl μ.y.cls idx t k) (ha : h.tag a = t) (hd : decode μ.cc pc = .ok (.getfield idx, 3))
    (kk : W p γ.l e R s m args below meth c H locs cells slots QQ (F0 m (pc + 3) ls (jV h t a k :: st))) : W p γ.l e R s m args below meth c H locs cells slots QQ (F0 m pc ls (.ref a :: st)) := by
  obtain ⟨ht0, ht1, q, hq, hk, hl⟩ := hf
  obtain ⟨q', hq', -, cell, q1, q2, q3, q4⟩ := (hH.2.2 a (by omega)).1 (by omega)
  rw [ha] at hq' q2 q4
  cases hq.symm.trans hq'
  obtain ⟨hS, hfc, kC, hkC, hkind⟩ := C.K.1 (t - 1) _ hq
  obtain ⟨cf, kf, fi, f, hi, hsl⟩ := hS k hk
  have hlay := u_lays (args := args) (C.lays hq) (fun _ h => h) hk
  have hst := (u_facts hfc hkC hlay hi).1
  have hv : cell.slots[f.slot]? = some (jV h t a k) := by rw [hsl]; exact q4 k hk
  have hkn : cell.vm ≠ .unknown := q3.2.1
  rcases hl with ⟨ref, hw, hs⟩ | ⟨host, hw⟩
  · have hlink : (Cond.fieldLink μ.y.cls idx ref (q.2.1 k).2.1 (q.2.1 k).2.2.1).before args s = true := C.w hw rfl
    have hi' : s.fieldFound? ref (q.2.1 k).2.1 (q.2.1 k).2.2.1 = some (cf, kf, fi, f) := by
      rcases hs with rfl | ⟨hs, hg⟩
      · exact hi
      · exact u_same (args := args) (C.w hs hg) _ hi
    exact W.getf C.hx C.hb C.hown hlink hi' hst q1 hkn hv rfl rfl hd kk
  · exact va_Wgetf C.hx C.hb C.hown (C.wN (args := args) hw) hi hst q1 hkn hv rfl rfl hd kk
theorem jC.apart (C : jC γ μ p s m meth c) {t : Nat} {q : vw_C} (ht : 0 < t) (hq : vwCl[t - 1]? = some q) : ∀ x y, x < q.2.2 → y < q.2.2 → x ≠ y → γ.D.2 (t - 1) x ≠ γ.D.2 (t - 1) y :=
  va_apart (args := #[]) (own := "") (C := q.1) (T := q.2.1) (N := q.2.2) (C.lays hq) (fun _ h => h) (jTy (t - 1 + 1)) (jTyOk hq) (jNm hq) C.K hq
theorem jPutF (C : jC γ μ p s m meth c) (hH : jRH γ h H) {idx t k a : Nat} {v : Value} {h' : jM} (hf : jFl μ.y.cls idx t k) (hfin : jFin t k = false ∨ (jFin t k = true ∧ μ.y.name = "<init>" ∧ jDecl t k = μ.y.cls)) (ha : h.tag a = t) (hb : jWr t = true ∨ γ.base ≤ a) (hn : narrow (jTy t k) v = v) (hfit : fits (jTy t k) v = true) (hd : decode μ.cc pc = .ok (.putfield idx, 3))
    (ht : h'.tag = h.tag) (hl' : h'.len = h.len) (hv : ∀ b, b ≠ a → ∀ t, jV h' t b = jV h t b) (hu : jV h' t a = updV (jV h t a) k v) (hlo : ∀ q ∈ locs, γ.base ≤ q.base)
    (kk : ∀ (H' : Heap) (locs' : List Loc), jRH γ h' H' → H'.size = H.size → (∀ q ∈ locs', γ.base ≤ q.base) → W p γ.l e R s m args below meth c H' locs' cells slots QQ (F0 m (pc + 3) ls st)) : W p γ.l e R s m args below meth c H locs cells slots QQ (F0 m pc ls (v :: .ref a :: st)) := by
  obtain ⟨ht0, ht1, q, hq, hk, hl⟩ := hf
  obtain ⟨q', hq', hlen, cell, q1, q2, q3, q4⟩ := (hH.2.2 a (by omega)).1 (by omega)
  have hown := (hH.2.2 a (by omega)).2.2
  rw [ha] at hq' q2 q4 hown
  cases hq.symm.trans hq'
  have hba : γ.base ≤ a := by
    rcases hb with hb | hb
    · exact hown hb (by omega)
    · exact hb
  replace q3 := q3.1 hba
  obtain ⟨hS, hfc, kC, hkC, hkind⟩ := C.K.1 (t - 1) _ hq
  obtain ⟨cf, kf, fi, f, hi, hsl⟩ := hS k hk
  have hlay := u_lays (args := args) (C.lays hq) (fun _ h => h) hk
  have hlay0 := C.lays (args := args) hq _ (u_in_lay hk)
  have hst := (u_facts hfc hkC hlay hi).1
  have hty : parseFieldDescriptor (q.2.1 k).2.2.1 = some (jTy t k) := by
    have h1 := jTyOk hq k hk
    rwa [show t - 1 + 1 = t by omega] at h1
  have h6 := u_fits hfc hkC hkind hlay hi hty hn hfit
  have hsz : f.slot < cell.slots.size := by rw [hsl]; exact k2_hasslot (q4 k hk)
  have hkn : cell.vm ≠ .unknown := by rw [q3]; exact fun h => by cases h
  have go : ∀ H' : Heap, H'[a]? = some (cell.setSlot f.slot v) → H'.size = H.size → (∀ q, q ≠ a → H'[q]? = H[q]?) → W p γ.l e R s m args below meth c H' (locs ++ [⟨a, f.slot⟩]) cells slots QQ (F0 m (pc + 3) ls st) := by
    intro H' e1 e2 e3
    refine kk H' _ ?_ e2 ?_
    · refine hH.obj (a := a) (k := k) (v := v) (cell := cell) (q := q) ht hl' hba hv ?_ (by omega) ?_ hlen hk ?_ ?_ q3 ?_ ?_ e3 e2
      · rw [ha]; exact hu
      · rw [ha]; exact hq
      · rw [ha]; exact C.apart ht0 hq
      · rw [ha]; exact q2
      · rw [ha]; exact q4
      · rw [ha, ← hsl]; exact e1
    · intro z hz
      rcases List.mem_append.mp hz with hz | hz
      · exact hlo z hz
      · rw [List.mem_singleton.mp hz]; exact hba
  have e0 : jFin t k = (q.2.1 k).2.2.2 := by unfold jFin; rw [hq]
  have d0 : jDecl t k = (q.2.1 k).1 := by unfold jDecl; rw [hq]
  rw [e0, d0] at hfin
  rcases hl with ⟨ref, hw, hs⟩ | ⟨host, hw⟩
  · have hlink : (Cond.fieldLink μ.y.cls idx ref (q.2.1 k).2.1 (q.2.1 k).2.2.1).before args s = true := C.w hw rfl
    have hi' : s.fieldFound? ref (q.2.1 k).2.1 (q.2.1 k).2.2.1 = some (cf, kf, fi, f) := by
      rcases hs with rfl | ⟨hs, hg⟩
      · exact hi
      · exact u_same (args := args) (C.w hs hg) _ hi
    rcases hfin with hf0 | ⟨hf1, hin, hdc⟩
    · unfold u_lay at hlay0
      rw [if_neg (by rw [hf0]; decide)] at hlay0
      have h7 := u_store hfc hkC hkind hlay0 hi hty hn hfit
      exact W.putK C.hx C.hb (f := f) ⟨C.hown, hlink, ⟨_, _, _, hi'⟩, hst⟩ (by rw [q2]; exact h7) q1 q3 hsz rfl rfl hd go
    · unfold u_lay at hlay0
      rw [if_pos hf1] at hlay0
      have hcf : m.cls = cf := by
        obtain ⟨_, _, c', _, _, _, -, -, hf', -, -, -, hown2, -⟩ := Cond.laysFinal_spec hlay0
        have e1 : c' = cf := by have := hi.symm.trans hf'; simp at this; exact this.1.symm
        rw [hdc] at hown2
        rw [← e1]; exact Option.some.inj (C.hown.symm.trans hown2)
      exact W.putFinK C.hx C.hb C.hown hlink hi' hst hcf (C.nm.trans hin) (by rw [q2]; exact h6) q1 q3 hsz rfl rfl hd go
  · rcases hfin with hf0 | ⟨hf1, hin, hdc⟩
    · unfold u_lay at hlay0
      rw [if_neg (by rw [hf0]; decide)] at hlay0
      have h7 := u_store hfc hkC hkind hlay0 hi hty hn hfit
      exact va_WputK C.hx C.hb (f := f) C.hown (C.wN (args := args) hw) hi hst (by rw [q2]; exact h7) q1 q3 hsz rfl rfl hd go
    · unfold u_lay at hlay0
      rw [if_pos hf1] at hlay0
      have hcf : m.cls = cf := by
        obtain ⟨_, _, c', _, _, _, -, -, hf', -, -, -, hown2, -⟩ := Cond.laysFinal_spec hlay0
        have e1 : c' = cf := by have := hi.symm.trans hf'; simp at this; exact this.1.symm
        rw [hdc] at hown2
        rw [← e1]; exact Option.some.inj (C.hown.symm.trans hown2)
      have ha' : a < H.size := (Array.getElem?_eq_some_iff.mp q1).1
      refine va_Wputf C.hx C.hb C.hown (C.wN (args := args) hw) hi hst (Or.inr ⟨hcf, C.nm.trans hin⟩) q1 hkn hsz h6.1 (by rw [q2, q3]; exact h6.2) rfl rfl hd (go _ ?_ ?_ ?_)
      · simp [Array.getElem?_setIfInBounds, ha']
      · simp
      · intro q hq
        simp [Array.getElem?_setIfInBounds, Ne.symm hq]
theorem jArrA (hH : jRH γ h H) {a : Nat} (h20 : 20 ≤ h.tag a) (hb : γ.base ≤ a) : H[a]? = some (arrV (γ.E (jE (h.tag a))) (h.len a) (jV h (h.tag a) a)) := by
  obtain ⟨cell, h1, h2, -⟩ := (hH.2.2 a (by omega)).2.1 h20
  rw [h1, h2 hb]
theorem jArrR (C : jC γ μ p s m meth c) (hH : jRH γ h H) {a : Nat} (h20 : 20 ≤ h.tag a) (hin : jE (h.tag a) ∈ jTys) : ∃ cell : Cell, H[a]? = some cell ∧ s.isArrayOf cell (jE (h.tag a)) ∧ cell.vm ≠ .unknown ∧ h.len a ≤ cell.slots.size ∧ cell.slots.size.toInt32 = Int32.ofNat (h.len a) ∧ ∀ k, k < h.len a → cell.slots[k]? = some (jV h (h.tag a) a k) := by
  obtain ⟨cell, h1, h2, h3⟩ := (hH.2.2 a (by omega)).2.1 h20
  rcases Nat.lt_or_ge a γ.base with q | q
  · obtain ⟨g1, g2, g3, g4, g5, -⟩ := h3 q
    exact ⟨cell, h1, State.isArrayOf_alike C.warm.alike g1, g2, g3, g4, g5⟩
  · have e := h2 q
    subst e
    refine ⟨_, h1, (C.A hin).of _ _, fun q => (by cases q), ?_, ?_, fun k hk => arrV_read _ _ hk⟩
    · rw [arrV_size]
      exact Nat.le_refl _
    · rw [arrV_size]
theorem jArrC (C : jC γ μ p s m meth c) (hH : jRH γ h H) {a : Nat} (ha : h.tag a = 34) : ∃ cell : Cell, H[a]? = some cell ∧ cell.vm.isStatics = false ∧ cell.cls = γ.E (.object "java/lang/Object") := by
  obtain ⟨cell, h1, h2, h3⟩ := (hH.2.2 a (by omega)).2.1 (by omega)
  rw [ha] at h2 h3
  rcases Nat.lt_or_ge a γ.base with q | q
  · obtain ⟨g1, g2, g3, g4, g5, g6⟩ := h3 q
    refine ⟨cell, h1, ?_, g6 rfl⟩
    have g := g1.1
    cases hv : cell.vm <;> first | rfl | exact absurd hv (g _)
  · rw [h2 q] at h1
    exact ⟨_, h1, rfl, rfl⟩
theorem jTyA {t : Nat} (h : 20 ≤ t) (k : Nat) : jTy t k = jE t := by
  unfold jTy
  split <;> first | omega | rfl
theorem jWrote {a : Nat} {L : List Loc} {i : Nat} (hlo : ∀ q ∈ L, γ.base ≤ q.base) (hb : γ.base ≤ a) : ∀ q ∈ L ++ [⟨a, i⟩], γ.base ≤ q.base := fun z hz => by
  rcases List.mem_append.mp hz with hz | hz
  · exact hlo z hz
  · rw [List.mem_singleton.mp hz]; exact hb
end HP
section JH
variable {γ : jG} {μ : jMth} {f mc ms cells slots : Nat} {h : jM} {pc : Nat} {lv : List (Nat × Value)} {st : List Value} {Q : Option Value → jM → Prop} {X : String → jM → Prop}

theorem J.getI {idx t k a : Nat} {pc' : Nat} (hc : μ.cm pc = some (.getfield idx, 3)) (hf : jFl μ.y.cls idx t k) (hk : jKi (jTy t k) = true) (ha : h.tag a = t) (hp : pc + 3 = pc') (kk : J γ μ f mc ms cells slots h pc' lv (.int (jI (h.I t a k)) :: st) Q X) : J γ μ f mc ms cells slots h pc lv (.ref a :: st) Q X := by
  subst hp
  intro p e s m args below meth c C H locs ls hH hz hlo hl
  refine jGetF C hH hf ha (C.dec hc) ?_
  unfold jV
  rw [jVal_i hk]
  exact kk p e s m args below meth c C H locs ls hH hz hlo hl
theorem J.getL {idx t k a : Nat} {pc' : Nat} (hc : μ.cm pc = some (.getfield idx, 3)) (hf : jFl μ.y.cls idx t k) (hk : jTy t k = .long) (ha : h.tag a = t) (hp : pc + 3 = pc') (kk : J γ μ f mc ms cells slots h pc' lv (.long (jL (h.L t a k)) :: st) Q X) : J γ μ f mc ms cells slots h pc lv (.ref a :: st) Q X := by
  subst hp
  intro p e s m args below meth c C H locs ls hH hz hlo hl
  refine jGetF C hH hf ha (C.dec hc) ?_
  unfold jV
  rw [jVal_l hk]
  exact kk p e s m args below meth c C H locs ls hH hz hlo hl
theorem J.getR {idx t k a b : Nat} {pc' : Nat} (hc : μ.cm pc = some (.getfield idx, 3)) (hf : jFl μ.y.cls idx t k) (hk : jKr (jTy t k) = true) (ha : h.tag a = t) (hb : h.R t a k = some b) (hp : pc + 3 = pc') (kk : J γ μ f mc ms cells slots h pc' lv (.ref b :: st) Q X) : J γ μ f mc ms cells slots h pc lv (.ref a :: st) Q X := by
  subst hp
  intro p e s m args below meth c C H locs ls hH hz hlo hl
  refine jGetF C hH hf ha (C.dec hc) ?_
  unfold jV
  rw [jVal_r hk, hb]
  exact kk p e s m args below meth c C H locs ls hH hz hlo hl
theorem J.getRN {idx t k a : Nat} {pc' : Nat} (hc : μ.cm pc = some (.getfield idx, 3)) (hf : jFl μ.y.cls idx t k) (hk : jKr (jTy t k) = true) (ha : h.tag a = t) (hb : h.R t a k = none) (hp : pc + 3 = pc') (kk : J γ μ f mc ms cells slots h pc' lv (.null :: st) Q X) : J γ μ f mc ms cells slots h pc lv (.ref a :: st) Q X := by
  subst hp
  intro p e s m args below meth c C H locs ls hH hz hlo hl
  refine jGetF C hH hf ha (C.dec hc) ?_
  unfold jV
  rw [jVal_r hk, hb]
  exact kk p e s m args below meth c C H locs ls hH hz hlo hl
theorem J.putI {idx t k a : Nat} {z : Int} {pc' : Nat} (hc : μ.cm pc = some (.putfield idx, 3)) (hf : jFl μ.y.cls idx t k) (hk : jTy t k = .int) (hfin : jFin t k = false ∨ (jFin t k = true ∧ μ.y.name = "<init>" ∧ jDecl t k = μ.y.cls)) (ha : h.tag a = t) (hb : jWr t = true ∨ γ.base ≤ a) (hp : pc + 3 = pc') (kk : J γ μ f mc ms cells slots (h.sI t a k z) pc' lv st Q X) : J γ μ f mc ms cells slots h pc lv (.int (jI z) :: .ref a :: st) Q X := by
  subst hp
  intro p e s m args below meth c C H locs ls hH hz hlo hl
  exact jPutF (h' := (h.sI t a k z)) C hH hf hfin ha hb (by rw [hk]; rfl) (by rw [hk]; rfl) (C.dec hc) rfl rfl (fun b hb t' => jV_oI hb t') (jV_sI (by rw [hk]; rfl)) hlo (fun H' locs' hH' hs' hlo' => kk p e s m args below meth c C H' locs' ls hH' (by rw [hs']; exact hz) hlo' hl)
theorem J.putZ {idx t k a : Nat} {z : Int} {pc' : Nat} (hc : μ.cm pc = some (.putfield idx, 3)) (hf : jFl μ.y.cls idx t k) (hk : jKi (jTy t k) = true) (hn : narrow (jTy t k) (.int (jI z)) = .int (jI z)) (hfit : fits (jTy t k) (.int (jI z)) = true) (hfin : jFin t k = false ∨ (jFin t k = true ∧ μ.y.name = "<init>" ∧ jDecl t k = μ.y.cls)) (ha : h.tag a = t) (hb : jWr t = true ∨ γ.base ≤ a) (hp : pc + 3 = pc') (kk : J γ μ f mc ms cells slots (h.sI t a k z) pc' lv st Q X) : J γ μ f mc ms cells slots h pc lv (.int (jI z) :: .ref a :: st) Q X := by
  subst hp
  intro p e s m args below meth c C H locs ls hH hz hlo hl
  exact jPutF (h' := (h.sI t a k z)) C hH hf hfin ha hb hn hfit (C.dec hc) rfl rfl (fun b hb t' => jV_oI hb t') (jV_sI hk) hlo (fun H' locs' hH' hs' hlo' => kk p e s m args below meth c C H' locs' ls hH' (by rw [hs']; exact hz) hlo' hl)
theorem J.putL {idx t k a : Nat} {z : Int} {pc' : Nat} (hc : μ.cm pc = some (.putfield idx, 3)) (hf : jFl μ.y.cls idx t k) (hk : jTy t k = .long) (hfin : jFin t k = false ∨ (jFin t k = true ∧ μ.y.name = "<init>" ∧ jDecl t k = μ.y.cls)) (ha : h.tag a = t) (hb : jWr t = true ∨ γ.base ≤ a) (hp : pc + 3 = pc') (kk : J γ μ f mc ms cells slots (h.sL t a k z) pc' lv st Q X) : J γ μ f mc ms cells slots h pc lv (.long (jL z) :: .ref a :: st) Q X := by
  subst hp
  intro p e s m args below meth c C H locs ls hH hz hlo hl
  exact jPutF (h' := (h.sL t a k z)) C hH hf hfin ha hb (by rw [hk]; rfl) (by rw [hk]; rfl) (C.dec hc) rfl rfl (fun b hb t' => jV_oL hb t') (jV_sL hk) hlo (fun H' locs' hH' hs' hlo' => kk p e s m args below meth c C H' locs' ls hH' (by rw [hs']; exact hz) hlo' hl)
theorem jNar_r {ty : FieldType} (h : jKr ty = true) {b : Nat} : narrow ty (.ref b) = .ref b := by cases ty <;> rfl
theorem jFit_r {ty : FieldType} (h : jKr ty = true) {b : Nat} : fits ty (.ref b) = true := by cases ty <;> first | rfl | (simp [jKr] at h)
theorem jNar_n {ty : FieldType} (h : jKr ty = true) : narrow ty .null = .null := by cases ty <;> rfl
theorem jFit_n {ty : FieldType} (h : jKr ty = true) : fits ty .null = true := by cases ty <;> first | rfl | (simp [jKr] at h)
theorem J.putR {idx t k a : Nat} {b : Nat} {pc' : Nat} (hc : μ.cm pc = some (.putfield idx, 3)) (hf : jFl μ.y.cls idx t k) (hk : jKr (jTy t k) = true) (hfin : jFin t k = false ∨ (jFin t k = true ∧ μ.y.name = "<init>" ∧ jDecl t k = μ.y.cls)) (ha : h.tag a = t) (hb : jWr t = true ∨ γ.base ≤ a) (hp : pc + 3 = pc') (kk : J γ μ f mc ms cells slots (h.sR t a k (some b)) pc' lv st Q X) : J γ μ f mc ms cells slots h pc lv (.ref b :: .ref a :: st) Q X := by
  subst hp
  intro p e s m args below meth c C H locs ls hH hz hlo hl
  exact jPutF (h' := (h.sR t a k (some b))) C hH hf hfin ha hb (jNar_r hk) (jFit_r hk) (C.dec hc) rfl rfl (fun b hb t' => jV_oR hb t') (jV_sR hk) hlo (fun H' locs' hH' hs' hlo' => kk p e s m args below meth c C H' locs' ls hH' (by rw [hs']; exact hz) hlo' hl)
theorem J.putRN {idx t k a : Nat}  {pc' : Nat} (hc : μ.cm pc = some (.putfield idx, 3)) (hf : jFl μ.y.cls idx t k) (hk : jKr (jTy t k) = true) (hfin : jFin t k = false ∨ (jFin t k = true ∧ μ.y.name = "<init>" ∧ jDecl t k = μ.y.cls)) (ha : h.tag a = t) (hb : jWr t = true ∨ γ.base ≤ a) (hp : pc + 3 = pc') (kk : J γ μ f mc ms cells slots (h.sR t a k none) pc' lv st Q X) : J γ μ f mc ms cells slots h pc lv (.null :: .ref a :: st) Q X := by
  subst hp
  intro p e s m args below meth c C H locs ls hH hz hlo hl
  exact jPutF (h' := (h.sR t a k none)) C hH hf hfin ha hb (jNar_n hk) (jFit_n hk) (C.dec hc) rfl rfl (fun b hb t' => jV_oR hb t') (jV_sR hk) hlo (fun H' locs' hH' hs' hlo' => kk p e s m args below meth c C H' locs' ls hH' (by rw [hs']; exact hz) hlo' hl)
theorem J.alen {a : Nat} {pc' : Nat} (hc : μ.cm pc = some (.arraylength, 1)) (h20 : 20 ≤ h.tag a) (hty : jE (h.tag a) ∈ jTys) (hp : pc + 1 = pc') (kk : J γ μ f mc ms cells slots h pc' lv (.int (jI (h.len a)) :: st) Q X) : J γ μ f mc ms cells slots h pc lv (.ref a :: st) Q X := by
  subst hp
  intro p e s m args below meth c C H locs ls hH hz hlo hl
  obtain ⟨cell, r1, r2, r3, r4, r5, r6⟩ := jArrR C hH h20 hty
  refine W.alen (n := jI (h.len a)) C.hx C.hb r1 r2 ?_ rfl rfl (C.dec hc) (kk p e s m args below meth c C H locs ls hH hz hlo hl)
  rw [r5, jI_nI]
  rfl
theorem J.iald {a t : Nat} {i : Int} {pc' : Nat} (hc : μ.cm pc = some (.iaload, 1)) (ha : h.tag a = t) (h20 : 20 ≤ t) (hty : jE t = .int) (hi0 : 0 ≤ i) (hi : i < (h.len a : Int)) (hr : r32 i) (hp : pc + 1 = pc') (kk : J γ μ f mc ms cells slots h pc' lv (.int (jI (h.I t a i.toNat)) :: st) Q X) : J γ μ f mc ms cells slots h pc lv (.int (jI i) :: .ref a :: st) Q X := by
  subst hp
  subst ha
  intro p e s m args below meth c C H locs ls hH hz hlo hl
  obtain ⟨cell, r1, r2, r3, r4, r5, r6⟩ := jArrR C hH h20 (by rw [hty]; decide)
  rw [hty] at r2
  refine W.iald (v := .int (jI (h.I (h.tag a) a i.toNat))) C.hx C.hb r1 r2 r3 ?_ ?_ rfl rfl (C.dec hc) (kk p e s m args below meth c C H locs ls hH hz hlo hl)
  · exact jI_inr hr hi0 (by omega)
  · rw [jI_ix hr hi0, r6 _ (by omega)]
    unfold jV
    rw [jTyA h20, hty, jVal_i rfl]
theorem J.bald {a t : Nat} {i : Int} {pc' : Nat} (hc : μ.cm pc = some (.baload, 1)) (ha : h.tag a = t) (h20 : 20 ≤ t) (hty : jE t = .byte) (hi0 : 0 ≤ i) (hi : i < (h.len a : Int)) (hr : r32 i) (hp : pc + 1 = pc') (kk : J γ μ f mc ms cells slots h pc' lv (.int (jI (h.I t a i.toNat)) :: st) Q X) : J γ μ f mc ms cells slots h pc lv (.int (jI i) :: .ref a :: st) Q X := by
  subst hp
  subst ha
  intro p e s m args below meth c C H locs ls hH hz hlo hl
  obtain ⟨cell, r1, r2, r3, r4, r5, r6⟩ := jArrR C hH h20 (by rw [hty]; decide)
  rw [hty] at r2
  refine W.bald (v := .int (jI (h.I (h.tag a) a i.toNat))) C.hx C.hb r1 r2 r3 ?_ ?_ rfl rfl (C.dec hc) (kk p e s m args below meth c C H locs ls hH hz hlo hl)
  · exact jI_inr hr hi0 (by omega)
  · rw [jI_ix hr hi0, r6 _ (by omega)]
    unfold jV
    rw [jTyA h20, hty, jVal_i rfl]
theorem J.zald {a t : Nat} {i : Int} {pc' : Nat} (hc : μ.cm pc = some (.baload, 1)) (ha : h.tag a = t) (h20 : 20 ≤ t) (hty : jE t = .boolean) (hi0 : 0 ≤ i) (hi : i < (h.len a : Int)) (hr : r32 i) (hp : pc + 1 = pc') (kk : J γ μ f mc ms cells slots h pc' lv (.int (jI (h.I t a i.toNat)) :: st) Q X) : J γ μ f mc ms cells slots h pc lv (.int (jI i) :: .ref a :: st) Q X := by
  subst hp
  subst ha
  intro p e s m args below meth c C H locs ls hH hz hlo hl
  obtain ⟨cell, r1, r2, r3, r4, r5, r6⟩ := jArrR C hH h20 (by rw [hty]; decide)
  rw [hty] at r2
  refine W.zald (v := .int (jI (h.I (h.tag a) a i.toNat))) C.hx C.hb r1 r2 r3 ?_ ?_ rfl rfl (C.dec hc) (kk p e s m args below meth c C H locs ls hH hz hlo hl)
  · exact jI_inr hr hi0 (by omega)
  · rw [jI_ix hr hi0, r6 _ (by omega)]
    unfold jV
    rw [jTyA h20, hty, jVal_i rfl]
theorem J.lald {a t : Nat} {i : Int} {pc' : Nat} (hc : μ.cm pc = some (.laload, 1)) (ha : h.tag a = t) (h20 : 20 ≤ t) (hty : jE t = .long) (hi0 : 0 ≤ i) (hi : i < (h.len a : Int)) (hr : r32 i) (hp : pc + 1 = pc') (kk : J γ μ f mc ms cells slots h pc' lv (.long (jL (h.L t a i.toNat)) :: st) Q X) : J γ μ f mc ms cells slots h pc lv (.int (jI i) :: .ref a :: st) Q X := by
  subst hp
  subst ha
  intro p e s m args below meth c C H locs ls hH hz hlo hl
  obtain ⟨cell, r1, r2, r3, r4, r5, r6⟩ := jArrR C hH h20 (by rw [hty]; decide)
  rw [hty] at r2
  refine W.lald (v := .long (jL (h.L (h.tag a) a i.toNat))) C.hx C.hb r1 r2 r3 ?_ ?_ rfl rfl (C.dec hc) (kk p e s m args below meth c C H locs ls hH hz hlo hl)
  · exact jI_inr hr hi0 (by omega)
  · rw [jI_ix hr hi0, r6 _ (by omega)]
    unfold jV
    rw [jTyA h20, hty, jVal_l rfl]
theorem J.aald {a t b : Nat} {i : Int} {pc' : Nat} (hc : μ.cm pc = some (.aaload, 1)) (ha : h.tag a = t) (h20 : 20 ≤ t) (hty : jE t ∈ jTys) (hk : jKr (jE t) = true) (hi0 : 0 ≤ i) (hi : i < (h.len a : Int)) (hr : r32 i) (hb : h.R t a i.toNat = some b) (hp : pc + 1 = pc') (kk : J γ μ f mc ms cells slots h pc' lv (.ref b :: st) Q X) : J γ μ f mc ms cells slots h pc lv (.int (jI i) :: .ref a :: st) Q X := by
  subst hp
  subst ha
  intro p e s m args below meth c C H locs ls hH hz hlo hl
  obtain ⟨cell, r1, r2, r3, r4, r5, r6⟩ := jArrR C hH h20 hty
  refine W.aald (v := .ref b) (ty := jE (h.tag a)) C.hx C.hb r1 r2 (by revert hk; cases jE (h.tag a) <;> simp [jKr, FieldType.isReference]) r3 ?_ ?_ rfl rfl (C.dec hc) (kk p e s m args below meth c C H locs ls hH hz hlo hl)
  · exact jI_inr hr hi0 (by omega)
  · rw [jI_ix hr hi0, r6 _ (by omega)]
    unfold jV
    rw [jTyA h20, jVal_r hk, hb]
    rfl
theorem J.aaldN {a t : Nat} {i : Int} {pc' : Nat} (hc : μ.cm pc = some (.aaload, 1)) (ha : h.tag a = t) (h20 : 20 ≤ t) (hty : jE t ∈ jTys) (hk : jKr (jE t) = true) (hi0 : 0 ≤ i) (hi : i < (h.len a : Int)) (hr : r32 i) (hb : h.R t a i.toNat = none) (hp : pc + 1 = pc') (kk : J γ μ f mc ms cells slots h pc' lv (.null :: st) Q X) : J γ μ f mc ms cells slots h pc lv (.int (jI i) :: .ref a :: st) Q X := by
  subst hp
  subst ha
  intro p e s m args below meth c C H locs ls hH hz hlo hl
  obtain ⟨cell, r1, r2, r3, r4, r5, r6⟩ := jArrR C hH h20 hty
  refine W.aald (v := .null) (ty := jE (h.tag a)) C.hx C.hb r1 r2 (by revert hk; cases jE (h.tag a) <;> simp [jKr, FieldType.isReference]) r3 ?_ ?_ rfl rfl (C.dec hc) (kk p e s m args below meth c C H locs ls hH hz hlo hl)
  · exact jI_inr hr hi0 (by omega)
  · rw [jI_ix hr hi0, r6 _ (by omega)]
    unfold jV
    rw [jTyA h20, jVal_r hk, hb]
    rfl
theorem J.iast {a t : Nat} {i z : Int} {pc' : Nat} (hc : μ.cm pc = some (.iastore, 1)) (ha : h.tag a = t) (h20 : 20 ≤ t) (hty : jE t = .int)  (hi0 : 0 ≤ i) (hi : i < (h.len a : Int)) (hr : r32 i) (hb : jWr t = true ∨ γ.base ≤ a) (hp : pc + 1 = pc') (kk : J γ μ f mc ms cells slots (h.sI t a i.toNat z) pc' lv st Q X) : J γ μ f mc ms cells slots h pc lv (.int (jI z) :: .int (jI i) :: .ref a :: st) Q X := by
  subst hp
  subst ha
  intro p e s m args below meth c C H locs ls hH hz hlo hl
  have hba : γ.base ≤ a := by
    rcases hb with hb | hb
    · exact (hH.2.2 a (by omega)).2.2 hb (by omega)
    · exact hb
  refine W.iast C.hx C.hb (jArrA hH h20 hba) (by rw [hty]; exact (C.A (by decide)).of _ _) (fun q => by cases q) ?_ rfl rfl (C.dec hc) (fun H' e1 e2 e3 => ?_)
  · rw [arrV_size]
    exact jI_inr hr hi0 hi
  · rw [jI_ix hr hi0] at e1
    refine kk p e s m args below meth c C H' _ ls (hH.arr (a := a) (k := i.toNat) (v := .int (jI z)) rfl rfl hba (fun b hb t' => jV_oI hb t') (jV_sI (by rw [jTyA h20, hty]; rfl)) h20 e1 e3 e2) (by rw [e2]; exact hz) (jWrote hlo hba) hl
theorem J.last {a t : Nat} {i z : Int} {pc' : Nat} (hc : μ.cm pc = some (.lastore, 1)) (ha : h.tag a = t) (h20 : 20 ≤ t) (hty : jE t = .long)  (hi0 : 0 ≤ i) (hi : i < (h.len a : Int)) (hr : r32 i) (hb : jWr t = true ∨ γ.base ≤ a) (hp : pc + 1 = pc') (kk : J γ μ f mc ms cells slots (h.sL t a i.toNat z) pc' lv st Q X) : J γ μ f mc ms cells slots h pc lv (.long (jL z) :: .int (jI i) :: .ref a :: st) Q X := by
  subst hp
  subst ha
  intro p e s m args below meth c C H locs ls hH hz hlo hl
  have hba : γ.base ≤ a := by
    rcases hb with hb | hb
    · exact (hH.2.2 a (by omega)).2.2 hb (by omega)
    · exact hb
  refine W.last C.hx C.hb (jArrA hH h20 hba) (by rw [hty]; exact (C.A (by decide)).of _ _) (fun q => by cases q) ?_ rfl rfl (C.dec hc) (fun H' e1 e2 e3 => ?_)
  · rw [arrV_size]
    exact jI_inr hr hi0 hi
  · rw [jI_ix hr hi0] at e1
    refine kk p e s m args below meth c C H' _ ls (hH.arr (a := a) (k := i.toNat) (v := .long (jL z)) rfl rfl hba (fun b hb t' => jV_oL hb t') (jV_sL (by rw [jTyA h20, hty])) h20 e1 e3 e2) (by rw [e2]; exact hz) (jWrote hlo hba) hl
theorem J.bast {a t : Nat} {i z : Int} {pc' : Nat} (hc : μ.cm pc = some (.bastore, 1)) (ha : h.tag a = t) (h20 : 20 ≤ t) (hty : jE t = .byte) (hn : narrow .byte (.int (jI z)) = .int (jI z)) (hi0 : 0 ≤ i) (hi : i < (h.len a : Int)) (hr : r32 i) (hb : jWr t = true ∨ γ.base ≤ a) (hp : pc + 1 = pc') (kk : J γ μ f mc ms cells slots (h.sI t a i.toNat z) pc' lv st Q X) : J γ μ f mc ms cells slots h pc lv (.int (jI z) :: .int (jI i) :: .ref a :: st) Q X := by
  subst hp
  subst ha
  intro p e s m args below meth c C H locs ls hH hz hlo hl
  have hba : γ.base ≤ a := by
    rcases hb with hb | hb
    · exact (hH.2.2 a (by omega)).2.2 hb (by omega)
    · exact hb
  refine W.bast C.hx C.hb (jArrA hH h20 hba) (by rw [hty]; exact (C.A (by decide)).of _ _) (fun q => by cases q) ?_ rfl rfl (C.dec hc) (fun H' e1 e2 e3 => ?_)
  · rw [arrV_size]
    exact jI_inr hr hi0 hi
  · rw [jI_ix hr hi0, hn] at e1
    refine kk p e s m args below meth c C H' _ ls (hH.arr (a := a) (k := i.toNat) (v := .int (jI z)) rfl rfl hba (fun b hb t' => jV_oI hb t') (jV_sI (by rw [jTyA h20, hty]; rfl)) h20 e1 e3 e2) (by rw [e2]; exact hz) (jWrote hlo hba) hl
theorem J.zast {a t : Nat} {i z : Int} {pc' : Nat} (hc : μ.cm pc = some (.bastore, 1)) (ha : h.tag a = t) (h20 : 20 ≤ t) (hty : jE t = .boolean) (hn : narrow .boolean (.int (jI z)) = .int (jI z)) (hi0 : 0 ≤ i) (hi : i < (h.len a : Int)) (hr : r32 i) (hb : jWr t = true ∨ γ.base ≤ a) (hp : pc + 1 = pc') (kk : J γ μ f mc ms cells slots (h.sI t a i.toNat z) pc' lv st Q X) : J γ μ f mc ms cells slots h pc lv (.int (jI z) :: .int (jI i) :: .ref a :: st) Q X := by
  subst hp
  subst ha
  intro p e s m args below meth c C H locs ls hH hz hlo hl
  have hba : γ.base ≤ a := by
    rcases hb with hb | hb
    · exact (hH.2.2 a (by omega)).2.2 hb (by omega)
    · exact hb
  refine W.zast C.hx C.hb (jArrA hH h20 hba) (by rw [hty]; exact (C.A (by decide)).of _ _) (fun q => by cases q) ?_ rfl rfl (C.dec hc) (fun H' e1 e2 e3 => ?_)
  · rw [arrV_size]
    exact jI_inr hr hi0 hi
  · rw [jI_ix hr hi0, hn] at e1
    refine kk p e s m args below meth c C H' _ ls (hH.arr (a := a) (k := i.toNat) (v := .int (jI z)) rfl rfl hba (fun b hb t' => jV_oI hb t') (jV_sI (by rw [jTyA h20, hty]; rfl)) h20 e1 e3 e2) (by rw [e2]; exact hz) (jWrote hlo hba) hl
theorem J.widenQ {Q' : Option Value → jM → Prop} {X' : String → jM → Prop} (hQ : ∀ r h', Q r h' → Q' r h') (hX : ∀ E h', X E h' → X' E h') (kk : J γ μ f mc ms cells slots h pc lv st Q X) : J γ μ f mc ms cells slots h pc lv st Q' X' := by
  intro p e s m args below meth c C H locs ls hH hz hlo hl T hT XT
  obtain ⟨t, a1, o, b1, b2, b3⟩ := kk p e s m args below meth c C H locs ls hH hz hlo hl T hT XT
  refine ⟨t, a1, o, b1, b2, ?_⟩
  rcases b3 with ⟨⟨r, h', e1, e2, e3⟩, L⟩ | ⟨q, e1, E, ce, L, ⟨h', x1, x2⟩, rest⟩
  · exact Or.inl ⟨⟨r, h', e1, hQ r h' e2, e3⟩, L⟩
  · exact Or.inr ⟨q, e1, E, ce, L, ⟨h', hX E h' x1, x2⟩, rest⟩
end JH
