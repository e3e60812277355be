/-- who owns a cell, who holds it: ghosts of region 0, which no cell shows -/
abbrev ow (h : jM) (b : Nat) : Option Nat := h.R 0 b 0
abbrev ho (h : jM) (b : Nat) : Option Nat := h.R 0 b 1
/-- cells that were there stand as they stood, but those of W in their contents and holders -/
def Fr (h h' : jM) (W : Nat → Prop) : Prop := ∀ b, h.tag b ≠ 0 → h'.tag b = h.tag b ∧ h'.len b = h.len b ∧ ow h' b = ow h b ∧ (¬ W b → (∀ k, h'.I (h.tag b) b k = h.I (h.tag b) b k) ∧ (∀ k, h'.L (h.tag b) b k = h.L (h.tag b) b k) ∧ (∀ k, h'.R (h.tag b) b k = h.R (h.tag b) b k) ∧ ho h' b = ho h b)
theorem Fr.rf {h : jM} {W : Nat → Prop} : Fr h h W := fun _ _ => ⟨rfl, rfl, rfl, fun _ => ⟨fun _ => rfl, fun _ => rfl, fun _ => rfl, rfl⟩⟩
theorem Fr.tag {h h' : jM} {W : Nat → Prop} (F : Fr h h' W) {b t : Nat} (hb : h.tag b = t) (h0 : t ≠ 0) : h'.tag b = t := by rw [(F b (by omega)).1, hb]
theorem Fr.len {h h' : jM} {W : Nat → Prop} (F : Fr h h' W) {b : Nat} (hb : h.tag b ≠ 0) : h'.len b = h.len b := (F b hb).2.1
theorem Fr.ow {h h' : jM} {W : Nat → Prop} (F : Fr h h' W) {b : Nat} (hb : h.tag b ≠ 0) : ow h' b = ow h b := (F b hb).2.2.1
theorem Fr.I {h h' : jM} {W : Nat → Prop} (F : Fr h h' W) {b t : Nat} (hb : h.tag b = t) (h0 : t ≠ 0) (hw : ¬ W b) (k : Nat) : h'.I t b k = h.I t b k := by
  subst hb
  exact ((F b h0).2.2.2 hw).1 k
theorem Fr.L {h h' : jM} {W : Nat → Prop} (F : Fr h h' W) {b t : Nat} (hb : h.tag b = t) (h0 : t ≠ 0) (hw : ¬ W b) (k : Nat) : h'.L t b k = h.L t b k := by
  subst hb
  exact ((F b h0).2.2.2 hw).2.1 k
theorem Fr.R {h h' : jM} {W : Nat → Prop} (F : Fr h h' W) {b t : Nat} (hb : h.tag b = t) (h0 : t ≠ 0) (hw : ¬ W b) (k : Nat) : h'.R t b k = h.R t b k := by
  subst hb
  exact ((F b h0).2.2.2 hw).2.2.1 k
theorem Fr.ho {h h' : jM} {W : Nat → Prop} (F : Fr h h' W) {b : Nat} (hb : h.tag b ≠ 0) (hw : ¬ W b) : ho h' b = ho h b := ((F b hb).2.2.2 hw).2.2.2
theorem Fr.trans {h h1 h2 : jM} {W W1 W2 : Nat → Prop} (F1 : Fr h h1 W1) (F2 : Fr h1 h2 W2) (hw : ∀ b, h.tag b ≠ 0 → W1 b ∨ W2 b → W b) : Fr h h2 W := by
  intro b hb
  obtain ⟨a1, a2, a0, a3⟩ := F1 b hb
  obtain ⟨b1, b2, b0, b3⟩ := F2 b (by rw [a1]; exact hb)
  refine ⟨b1.trans a1, b2.trans a2, b0.trans a0, fun hn => ?_⟩
  obtain ⟨c1, c2, c3, c4⟩ := a3 (fun q => hn (hw b hb (Or.inl q)))
  obtain ⟨d1, d2, d3, d4⟩ := b3 (fun q => hn (hw b hb (Or.inr q)))
  rw [a1] at d1 d2 d3
  exact ⟨fun k => (d1 k).trans (c1 k), fun k => (d2 k).trans (c2 k), fun k => (d3 k).trans (c3 k), d4.trans c4⟩
theorem Fr.mono {h h' : jM} {W W' : Nat → Prop} (F : Fr h h' W) (hw : ∀ b, h.tag b ≠ 0 → W b → W' b) : Fr h h' W' := F.trans Fr.rf (W2 := fun _ => False) (fun b hb q => by rcases q with q | q; exact hw b hb q; exact q.elim)
theorem Fr.sI {h : jM} {t a k : Nat} {v : Int} : Fr h (h.sI t a k v) (fun b => b = a) := fun b _ => ⟨rfl, rfl, rfl, fun hb => ⟨fun j => by rw [jM.I_sI, if_neg (fun q => hb q.2.1)], fun _ => rfl, fun _ => rfl, rfl⟩⟩
theorem Fr.sL {h : jM} {t a k : Nat} {v : Int} : Fr h (h.sL t a k v) (fun b => b = a) := fun b _ => ⟨rfl, rfl, rfl, fun hb => ⟨fun _ => rfl, fun j => by rw [jM.L_sL, if_neg (fun q => hb q.2.1)], fun _ => rfl, rfl⟩⟩
theorem Fr.sR {h : jM} {t a k : Nat} {v : Option Nat} (ht : t ≠ 0) : Fr h (h.sR t a k v) (fun b => b = a) := fun b _ => ⟨rfl, rfl, by show (h.sR t a k v).R 0 b 0 = _; rw [jM.R_sR, if_neg (fun q => ht q.1.symm)], fun hb => ⟨fun _ => rfl, fun _ => rfl, fun j => by rw [jM.R_sR, if_neg (fun q => hb q.2.1)], by show (h.sR t a k v).R 0 b 1 = _; rw [jM.R_sR, if_neg (fun q => ht q.1.symm)]⟩⟩
theorem Fr.fI {h : jM} {t a : Nat} {F : Nat → Int} : Fr h (h.fI t a F) (fun b => b = a) := fun b _ => ⟨rfl, rfl, rfl, fun hb => ⟨fun j => by rw [jM.I_fI, if_neg (fun q => hb q.2)], fun _ => rfl, fun _ => rfl, rfl⟩⟩
theorem Fr.fR {h : jM} {t a : Nat} {F : Nat → Option Nat} (ht : t ≠ 0) : Fr h (h.fR t a F) (fun b => b = a) := fun b _ => ⟨rfl, rfl, by show (h.fR t a F).R 0 b 0 = _; rw [jM.R_fR, if_neg (fun q => ht q.1.symm)], fun hb => ⟨fun _ => rfl, fun _ => rfl, fun j => by rw [jM.R_fR, if_neg (fun q => hb q.2)], by show (h.fR t a F).R 0 b 1 = _; rw [jM.R_fR, if_neg (fun q => ht q.1.symm)]⟩⟩
theorem Fr.nw {h : jM} {q t n : Nat} (ht : t ≠ 0) (hq : h.tag q = 0) : Fr h (h.nw q t n) (fun _ => False) := fun b hb => by
  have hn : ¬ b = q := fun e => by rw [e] at hb; exact hb hq
  refine ⟨by rw [jM.tag_nw, if_neg hn], by rw [jM.len_nw, if_neg hn], ?_, fun _ => ⟨fun k => ?_, fun k => ?_, fun k => ?_, ?_⟩⟩
  · show (h.nw q t n).R 0 b 0 = _
    rw [jM.R_nw, if_neg (fun q => hn q.2)]
  · rw [jM.I_nw, if_neg (fun q => hn q.2)]
  · rw [jM.L_nw, if_neg (fun q => hn q.2)]
  · rw [jM.R_nw, if_neg (fun q => hn q.2)]
  · show (h.nw q t n).R 0 b 1 = _
    rw [jM.R_nw, if_neg (fun q => hn q.2)]
theorem jOwn_ok {γ : jG} {h : jM} {a k : Nat} {v : Option Nat} {H : Heap} (hR : jRH γ h H) : jRH γ (h.sR 0 a k v) H := by
  refine ⟨hR.1, hR.2.1, fun b hb => ?_⟩
  have hb' : h.tag b ≠ 0 := hb
  refine (hR.2.2 b hb').kept rfl rfl rfl ?_
  funext j
  unfold jV
  rw [jM.I_sR, jM.L_sR, jM.R_sR, if_neg (fun q => hb' q.1)]
theorem J.own {γ : jG} {μ : jMth} {f mc ms cells slots : Nat} {h : jM} {pc : Nat} {lv : List (Nat × Value)} {st : List Value} {Q : Option Value → jM → Prop} {X : String → jM → Prop} (a k : Nat) (v : Option Nat) (kk : J γ μ f mc ms cells slots (h.sR 0 a k v) pc lv st Q X) : J γ μ f mc ms cells slots h pc lv st Q X := by
  intro p e s m args below meth c C H locs ls hH hz hlo hl
  exact kk p e s m args below meth c C H locs ls (jOwn_ok hH) hz hlo hl
/-- places of the memory that no cell shows: ghosts -/
def jGh (t k : Nat) : Bool := match vwCl[t - 1]? with
  | some q => Nat.ble q.2.2 k
  | none => !jKr (jE t)
theorem jGh_ok {γ : jG} {h : jM} {t a k : Nat} {v : Option Nat} {H : Heap} (hg : jGh t k = true) (ht : h.tag a = t) (hR : jRH γ h H) : jRH γ (h.sR t a k v) H := by
  refine ⟨hR.1, hR.2.1, fun b hb => ?_⟩
  have hb' : h.tag b ≠ 0 := hb
  by_cases e : b = a
  · subst e
    obtain ⟨h1, h2, h3⟩ := hR.2.2 b hb'
    refine ⟨fun q => ?_, fun q => ?_, h3⟩
    · obtain ⟨c, c1, c2, c3⟩ := h1 q
      refine ⟨c, c1, c2, c3.to (fun j hj => ?_)⟩
      unfold jV
      rw [jM.I_sR, jM.L_sR, jM.R_sR]
      have hjk : ¬ j = k := fun q9 => by
        have c1 : vwCl[h.tag b - 1]? = some c := c1
        rw [ht] at c1
        unfold jGh at hg
        rw [c1] at hg
        have := Nat.le_of_ble_eq_true hg
        omega
      rw [if_neg (fun q9 => hjk q9.2.2)]
      rfl
    · have ht20 : 20 ≤ h.tag b := q
      show arrW γ b (jE (h.tag b)) (h.len b) (jV (h.sR t b k v) (h.tag b) b) H
      refine (h2 q).cg (fun j _ => ?_)
      unfold jV
      rw [jM.I_sR, jM.L_sR, jM.R_sR]
      by_cases hk : h.tag b = t ∧ b = b ∧ j = k
      · rw [if_pos hk]
        unfold jGh at hg
        have hv : vwCl[t - 1]? = none := by
          rw [← ht]
          apply List.getElem?_eq_none
          show 16 ≤ h.tag b - 1
          omega
        rw [hv] at hg
        have hg : (!jKr (jE t)) = true := hg
        rw [jTyA ht20, ht]
        revert hg
        cases jE t <;> simp [jKr, jVal]
      · rw [if_neg hk]
  · exact (hR.2.2 b hb').kept rfl rfl rfl (jV_oR e _)
theorem J.gh {γ : jG} {μ : jMth} {f mc ms cells slots : Nat} {h : jM} {pc : Nat} {lv : List (Nat × Value)} {st : List Value} {Q : Option Value → jM → Prop} {X : String → jM → Prop} {t a k : Nat} {v : Option Nat} (hg : jGh t k = true) (ht : h.tag a = t) (kk : J γ μ f mc ms cells slots (h.sR t a k v) pc lv st Q X) : J γ μ f mc ms cells slots h pc lv st Q X := by
  intro p e s m args below meth c C H locs ls hH hz hlo hl
  exact kk p e s m args below meth c C H locs ls (jGh_ok hg ht hH) hz hlo hl
/-- a SPAN object s with its array: pa; each array knows its owner -/
def pa (h : jM) (s : Nat) : Nat := (h.R 14 s 0).getD 0
def sv (h : jM) (s i : Nat) : Int := h.I 20 (pa h s) i
def isSp (h : jM) (s : Nat) : Prop := h.tag s = 14 ∧ h.R 14 s 0 = some (pa h s) ∧ h.tag (pa h s) = 20 ∧ h.len (pa h s) = 10 ∧ h.R 20 (pa h s) 0 = some s
theorem isSp.paK {h h' : jM} {W : Nat → Prop} {s : Nat} (F : Fr h h' W) (hS : isSp h s) (hw : ¬ W s) : pa h' s = pa h s := by
  unfold pa
  rw [F.R hS.1 (by omega) hw]
theorem isSp.kept {h h' : jM} {W : Nat → Prop} {s : Nat} (F : Fr h h' W) (hS : isSp h s) (h1 : ¬ W s) (h2 : ¬ W (pa h s)) : isSp h' s ∧ sv h' s = sv h s := by
  have e := hS.paK F h1
  obtain ⟨a1, a2, a3, a4, a5⟩ := hS
  refine ⟨⟨F.tag a1 (by omega), ?_, ?_, ?_, ?_⟩, ?_⟩
  · rw [e, F.R a1 (by omega) h1]; exact a2
  · rw [e]; exact F.tag a3 (by omega)
  · rw [e, F.len (by omega)]; exact a4
  · rw [e, F.R a3 (by omega) h2]; exact a5
  · funext i
    unfold sv
    rw [e, F.I a3 (by omega) h2]
theorem isSp.ne {h : jM} {s s' : Nat} (h1 : isSp h s) (h2 : isSp h s') (hn : s ≠ s') : pa h s ≠ pa h s' := fun e => by
  have a := h1.2.2.2.2
  have b := h2.2.2.2.2
  rw [e, b] at a
  exact hn (Option.some.inj a).symm

