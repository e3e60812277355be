/-- the kind of a cell: lists by their mark, spans by their owner, else by the class -/
def kc (h : jM) (b : Nat) : Nat := if h.tag b = 3 then 5000 + (ow h b).getD 0 else if h.tag b = 34 then 5000 + (ow h (h.I 34 b 0).toNat).getD 0 else if h.tag b = 14 ∨ h.tag b = 20 then 100 + h.tag ((ow h b).getD 0) else if 36 ≤ h.tag b then 9000 + h.tag b else h.tag b
abbrev FrC (h h' : jM) (S : Nat → Prop) : Prop := Fr h h' (fun b => S (kc h b))
theorem kc_o {h : jM} {b t : Nat} (ht : h.tag b = t) (h1 : t ≠ 3 ∧ t ≠ 34 ∧ t ≠ 14 ∧ t ≠ 20 ∧ t < 36) : kc h b = t := by
  unfold kc
  rw [ht, if_neg h1.1, if_neg h1.2.1, if_neg (by omega), if_neg (by omega)]
theorem kc_l {h : jM} {b i : Nat} (ht : h.tag b = 3) (hi : ow h b = some i) : kc h b = 5000 + i := by
  unfold kc
  rw [if_pos ht, hi]
  rfl
theorem kc_s {h : jM} {b y t : Nat} (ht : h.tag b = 14 ∨ h.tag b = 20) (hi : ow h b = some y) (hy : h.tag y = t) : kc h b = 100 + t := by
  unfold kc
  rw [if_neg (by omega), if_neg (by omega), if_pos ht, hi]
  show 100 + h.tag y = _
  rw [hy]
theorem kc_S {h : jM} {b y t u : Nat} (ht : h.tag b = 14 ∨ h.tag b = 20) (hi : ow h b = some y) (hy : h.tag y = t) (hu : 100 + t = u) : kc h b = u := by rw [kc_s ht hi hy, hu]
theorem kc_e {γ : jG} {h : jM} {a e i : Nat} {xs : List Nat} (hL : isL γ h a e xs) (hi : ow h a = some i) (hn : h.len e ≠ 0) : kc h e = 5000 + i := by
  unfold kc
  have te := hL.2.2.1
  rw [if_neg (by omega), if_pos te, hL.2.2.2.2.2.2.2.2 hn, Int.toNat_natCast, hi]
  rfl
theorem lW_kc {γ : jG} {h : jM} {a e i b : Nat} {xs : List Nat} (hL : isL γ h a e xs) (hi : ow h a = some i) (hb : lW h a e b) : kc h b = 5000 + i := by
  rcases hb with hb | hb
  · rw [hb]; exact kc_l hL.1 hi
  · rw [hb.1]; exact kc_e hL hi hb.2
/-- a list that bears a mark -/
def isLi (γ : jG) (h : jM) (i l : Nat) (xs : List Nat) : Prop := (∃ e, isL γ h l e xs) ∧ ow h l = some i
theorem isLi.c {γ : jG} {h h' : jM} {S : Nat → Prop} {i l : Nat} {xs : List Nat} (F : FrC h h' S) (hL : isLi γ h i l xs) (hs : ¬ S (5000 + i)) : isLi γ h' i l xs := by
  obtain ⟨⟨e, h1⟩, h2⟩ := hL
  refine ⟨⟨e, h1.keptW F (fun z => hs (by rw [← kc_l h1.1 h2]; exact z)) ?_⟩, by rw [F.ow (by have := h1.1; omega)]; exact h2⟩
  by_cases l0 : h.len e = 0
  · exact Or.inr l0
  · exact Or.inl (fun z => hs (by rw [← kc_e h1 h2 l0]; exact z))
theorem isO.c {h h' : jM} {S : Nat → Prop} {s y t : Nat} {P : Nat → Int} (F : FrC h h' S) (hO : isO h s y P) (ht : h.tag y = t) (hs : ¬ S (100 + t)) : isO h' s y P :=
  hO.kept2 F (fun z => hs (by rw [← kc_s (Or.inl hO.1.1) hO.2.1 ht]; exact z)) (fun z => hs (by rw [← kc_s (Or.inr hO.1.2.2.1) hO.2.2.1 ht]; exact z))
def at' (xs : List Nat) (v : Int) (y : Nat) : Prop := 0 ≤ v ∧ xs[v.toNat]? = some y
def kP (V : VV) (k : Int) : Nat → Int := fun j => if j % 2 = 0 then V 104 (5 * k + ((j / 2 : Nat) : Int)) else V 105 (5 * k + ((j / 2 : Nat) : Int))
def oV (V : VV) (s : Int) : Int → Int := fun j => if V 108 (ua s (j / 10) ((j % 10) / 2)) = 0 then -1 else if j % 2 = 0 then V 106 (ua s (j / 10) ((j % 10) / 2)) else V 107 (ua s (j / 10) ((j % 10) / 2))
def lP (V : VV) (l : Int) : Nat → Int := fun j => if j % 2 = 0 then V 134 (5 * l + ((j / 2 : Nat) : Int)) else V 135 (5 * l + ((j / 2 : Nat) : Int))
def pP (V : VV) (p : Int) : Nat → Int := fun j => if j % 2 = 0 then V 156 (5 * p + ((j / 2 : Nat) : Int)) else V 157 (5 * p + ((j / 2 : Nat) : Int))
def aP (V : VV) : Nat → Int := fun j => if j % 2 = 0 then V 146 ((j / 2 : Nat) : Int) else V 147 ((j / 2 : Nat) : Int)
def ldR (ls : List Nat) (v : Int) : Option Nat := if v = -1 then none else ls[v.toNat]?
section RP
variable {γ : jG} {h h' : jM} {S : Nat → Prop} {ρ σ : Nat → Nat} {x : Nat} {ks ss cs ls ms : List Nat} {V : VV}
def repX (h : jM) (x : Nat) (ρ σ : Nat → Nat) (V : VV) : Prop := h.tag x = 15 ∧ h.R 15 x 0 = some (ρ 0) ∧ h.R 15 x 1 = some (ρ 1) ∧ h.R 15 x 2 = some (ρ 2) ∧ h.R 15 x 3 = some (ρ 3) ∧ h.R 15 x 4 = some (ρ 4) ∧ h.R 15 x 5 = some (ρ 5) ∧ h.R 15 x 6 = some (ρ 6) ∧ h.R 15 x 7 = some (σ 0) ∧ h.R 15 x 8 = some (ρ 8) ∧ h.I 15 x 9 = V 16 3
theorem repX.c (F : FrC h h' S) (hX : repX h x ρ σ V) (hs : ¬ S 15) : repX h' x ρ σ V := by
  obtain ⟨a0, a1, a2, a3, a4, a5, a6, a7, a8, a9, a10⟩ := hX
  have hw : ¬ S (kc h x) := by rw [kc_o a0 (by decide)]; exact hs
  exact ⟨F.tag a0 (by decide), by rw [F.R a0 (by decide) hw]; exact a1, by rw [F.R a0 (by decide) hw]; exact a2, by rw [F.R a0 (by decide) hw]; exact a3, by rw [F.R a0 (by decide) hw]; exact a4, by rw [F.R a0 (by decide) hw]; exact a5, by rw [F.R a0 (by decide) hw]; exact a6, by rw [F.R a0 (by decide) hw]; exact a7, by rw [F.R a0 (by decide) hw]; exact a8, by rw [F.R a0 (by decide) hw]; exact a9, by rw [F.I a0 (by decide) hw]; exact a10⟩
def repA (γ : jG) (h : jM) (ρ : Nat → Nat) (ks : List Nat) (V : VV) : Prop := isLi γ h 0 (ρ 0) ks ∧ (ks.length : Int) = V 16 1 ∧ repK h ks (kP V)
theorem repK.c {PK : Int → Nat → Int} (F : FrC h h' S) (hK : repK h ks PK) (h1 : ¬ S 9) (h2 : ¬ S 109) : repK h' ks PK := hK.kept F (fun b hb z => h1 (by rw [← kc_o hb (by decide)]; exact z)) (fun b y hb ho hy z => h2 (by rw [← kc_S (u := 109) hb ho hy rfl]; exact z))
theorem repA.c (F : FrC h h' S) (hA : repA γ h ρ ks V) (h0 : ¬ S 5000) (h1 : ¬ S 9) (h2 : ¬ S 109) : repA γ h' ρ ks V := ⟨hA.1.c F h0, hA.2.1, hA.2.2.c F h1 h2⟩
def repB (γ : jG) (h : jM) (ρ : Nat → Nat) (ss : List Nat) (V : VV) : Prop := isLi γ h 1 (ρ 1) ss ∧ (ss.length : Int) = V 16 2 ∧ repS h ss (oV V) (fun s => V 109 s)
theorem repS.c {O : Int → Int → Int} {pd : Int → Int} (F : FrC h h' S) (hS : repS h ss O pd) (h1 : ¬ S 13) (h2 : ¬ S 21) : repS h' ss O pd := hS.kept F (fun b hb z => by
  rcases hb with hb | hb
  · exact h1 (by rw [← kc_o hb (by decide)]; exact z)
  · exact h2 (by rw [← kc_o hb (by decide)]; exact z))
theorem repB.c (F : FrC h h' S) (hB : repB γ h ρ ss V) (h0 : ¬ S 5001) (h1 : ¬ S 13) (h2 : ¬ S 21) : repB γ h' ρ ss V := ⟨hB.1.c F h0, hB.2.1, hB.2.2.c F h1 h2⟩
/-- a contract in the model's state -/
def conE (γ : jG) (h : jM) (ss : List Nat) (V : VV) (c : Nat) (z : Nat) : Prop := ∃ g e gl G K, isCt γ h z g e gl (gBl G) (gAl G) (gPl G) (V 120 c) ∧ gl.length = G.length ∧ ow h g = some (1000 + c) ∧ h.I 5 z 0 = (c : Int) ∧ (∃ sz, at' ss (V 117 c) sz ∧ h.R 5 z 1 = some sz) ∧ h.I 5 z 2 = V 118 c ∧ gRep V c G K ∧ gsOk G
theorem isCt.c {c g e i : Nat} {gl : List Nat} {GB GA : Int → Int → Int} {GP : Int → Int} {ep : Int} (F : FrC h h' S) (hC : isCt γ h c g e gl GB GA GP ep) (hi : ow h g = some i) (h1 : ¬ S 5) (h2 : ¬ S (5000 + i)) (h3 : ¬ S 7) (h4 : ¬ S 22) (h5 : ¬ S 23) : isCt γ h' c g e gl GB GA GP ep := by
  refine hC.keptW F (fun z => h1 (by rw [← kc_o hC.1 (by decide)]; exact z)) (fun z => h2 (by rw [← kc_l hC.2.2.1.1 hi]; exact z)) ?_ (fun b hb z => ?_)
  · by_cases l0 : h.len e = 0
    · exact Or.inr l0
    · exact Or.inl (fun z => h2 (by rw [← kc_e hC.2.2.1 hi l0]; exact z))
  · rcases hb with hb | hb | hb
    · exact h3 (by rw [← kc_o hb (by decide)]; exact z)
    · exact h4 (by rw [← kc_o hb (by decide)]; exact z)
    · exact h5 (by rw [← kc_o hb (by decide)]; exact z)
theorem conE.c {c z : Nat} (F : FrC h h' S) (hC : conE γ h ss V c z) (h1 : ¬ S 5) (h2 : ¬ S (6000 + c)) (h3 : ¬ S 7) (h4 : ¬ S 22) (h5 : ¬ S 23) : conE γ h' ss V c z := by
  obtain ⟨g, e, gl, G, K, a1, a2, a3, a4, ⟨sz, a5, a6⟩, a7, a8, a9⟩ := hC
  have hw : ¬ S (kc h z) := by rw [kc_o a1.1 (by decide)]; exact h1
  exact ⟨g, e, gl, G, K, a1.c F a3 h1 (by rw [← Nat.add_assoc]; exact h2) h3 h4 h5, a2, by rw [F.ow (by have := a1.2.2.1.1; omega)]; exact a3, by rw [F.I a1.1 (by decide) hw]; exact a4, ⟨sz, a5, by rw [F.R a1.1 (by decide) hw]; exact a6⟩, by rw [F.I a1.1 (by decide) hw]; exact a7, a8, a9⟩
def repT (γ : jG) (h : jM) (ρ : Nat → Nat) (cs ss : List Nat) (V : VV) : Prop := isLi γ h 2 (ρ 2) cs ∧ (cs.length : Int) = V 16 11 ∧ ∀ (c z : Nat), cs[c]? = some z → conE γ h ss V c z
theorem repT.c (F : FrC h h' S) (hT : repT γ h ρ cs ss V) (h0 : ¬ S 5002) (h1 : ¬ S 5) (h2 : ∀ c : Nat, c < cs.length → ¬ S (6000 + c)) (h3 : ¬ S 7) (h4 : ¬ S 22) (h5 : ¬ S 23) : repT γ h' ρ cs ss V := ⟨hT.1.c F h0, hT.2.1, fun c z hz => (hT.2.2 c z hz).c F h1 (h2 c (List.getElem?_eq_some_iff.mp hz).1) h3 h4 h5⟩
def lodE (h : jM) (ss ks cs : List Nat) (V : VV) (l z : Nat) : Prop := ∃ s k c sp, isLd h z l s k (V 129 l) (V 130 l) c sp (lP V l) (V 132 l) (V 133 l) ∧ at' ss (V 127 l) s ∧ at' ks (V 128 l) k ∧ at' cs (V 131 l) c
theorem lodE.c {l z : Nat} (F : FrC h h' S) (hL : lodE h ss ks cs V l z) (h1 : ¬ S 11) (h2 : ¬ S 111) : lodE h' ss ks cs V l z := by
  obtain ⟨s, k, c, sp, a1, a2⟩ := hL
  have a0 := a1
  obtain ⟨b1, b2, b3, b4, b5, b6, b7, b8, b9, b10, b11⟩ := a0
  exact ⟨s, k, c, sp, a1.kept F (fun z => h1 (by rw [← kc_o b1 (by decide)]; exact z)) (fun z => h2 (by rw [← kc_S (u := 111) (Or.inl b9.1.1) b9.2.1 b1 rfl]; exact z)) (fun z => h2 (by rw [← kc_S (u := 111) (Or.inr b9.1.2.2.1) b9.2.2.1 b1 rfl]; exact z)), a2⟩
def repD (γ : jG) (h : jM) (ρ : Nat → Nat) (ls ss ks cs : List Nat) (V : VV) : Prop := isLi γ h 3 (ρ 3) ls ∧ (ls.length : Int) = V 16 26 ∧ ∀ (l z : Nat), ls[l]? = some z → lodE h ss ks cs V l z
theorem repD.c (F : FrC h h' S) (hD : repD γ h ρ ls ss ks cs V) (h0 : ¬ S 5003) (h1 : ¬ S 11) (h2 : ¬ S 111) : repD γ h' ρ ls ss ks cs V := ⟨hD.1.c F h0, hD.2.1, fun l z hz => (hD.2.2 l z hz).c F h1 h2⟩
/-- a heap in the model's state -/
def hepE (γ : jG) (h : jM) (ls : List Nat) (V : VV) (g p a e : Nat) (ys : List Nat) : Prop := h.tag p = 8 ∧ h.R 8 p 0 = some a ∧ isLs γ h a e ys ∧ ow h a = some (10 + g) ∧ (ys.length : Int) = V 138 g ∧ lays h ys (fun k => V 139 (41 * g + k)) (fun k => ldR ls (V 140 (41 * g + k))) (fun k => V 141 (41 * g + k)) (fun k => yP V (41 * g + k))
theorem isLs.c {a e i : Nat} {ys : List Nat} (F : FrC h h' S) (hL : isLs γ h a e ys) (hi : ow h a = some i) (h1 : ¬ S (5000 + i)) (h2 : ∀ y ∈ ys, h.tag y = 10 ∧ ¬ S 10) : isLs γ h' a e ys := by
  refine hL.kept F (fun z => h1 (by rw [← kc_l hL.1.1 hi]; exact z)) ?_ (fun y hy => ⟨by have := (h2 y hy).1; omega, fun z => (h2 y hy).2 (by rw [← kc_o (h2 y hy).1 (by decide)]; exact z)⟩)
  by_cases l0 : h.len e = 0
  · exact Or.inr l0
  · exact Or.inl (fun z => h1 (by rw [← kc_e hL.1 hi l0]; exact z))
theorem lays.c {ys : List Nat} {N C : Int → Int} {D : Int → Option Nat} {P : Int → Nat → Int} (F : FrC h h' S) (hY : lays h ys N D C P) (h1 : ¬ S 10) (h2 : ¬ S 110) : lays h' ys N D C P := hY.kept F (fun y hy b hb ho z => by
  have ty := hY.tag hy
  rcases hb with hb | hb
  · exact h1 (by rw [← kc_o hb (by decide)]; exact z)
  · exact h2 (by rw [← kc_S (u := 110) hb ho ty rfl]; exact z))
theorem hepE.c {g p a e : Nat} {ys : List Nat} (F : FrC h h' S) (hE : hepE γ h ls V g p a e ys) (h1 : ¬ S 8) (h2 : ¬ S (5010 + g)) (h3 : ¬ S 10) (h4 : ¬ S 110) : hepE γ h' ls V g p a e ys := by
  obtain ⟨a1, a2, a3, a4, a5, a6⟩ := hE
  exact ⟨F.tag a1 (by decide), by rw [F.R a1 (by decide) (fun z => h1 (by rw [← kc_o a1 (by decide)]; exact z))]; exact a2, a3.c F a4 (by rw [← Nat.add_assoc]; exact h2) (fun y hy => ⟨a6.tag hy, h3⟩), by rw [F.ow (by have := a3.1.1; omega)]; exact a4, a5, a6.c F h3 h4⟩
def repE (γ : jG) (h : jM) (ρ : Nat → Nat) (ls : List Nat) (V : VV) : Prop := h.tag (ρ 5) = 33 ∧ h.len (ρ 5) = 6 ∧ ∀ g : Nat, g < 6 → ∃ p a e ys, h.R 33 (ρ 5) g = some p ∧ hepE γ h ls V g p a e ys
theorem repE.c (F : FrC h h' S) (hE : repE γ h ρ ls V) (h0 : ¬ S 33) (h1 : ¬ S 8) (h2 : ∀ g : Nat, g < 6 → ¬ S (5010 + g)) (h3 : ¬ S 10) (h4 : ¬ S 110) : repE γ h' ρ ls V := by
  obtain ⟨a1, a2, a3⟩ := hE
  refine ⟨F.tag a1 (by decide), by rw [F.len (by omega)]; exact a2, fun g hg => ?_⟩
  obtain ⟨p, a, e, ys, b1, b2⟩ := a3 g hg
  exact ⟨p, a, e, ys, by rw [F.R a1 (by decide) (fun z => h0 (by rw [← kc_o a1 (by decide)]; exact z))]; exact b1, b2.c F h1 (h2 g hg) h3 h4⟩
/-- a melt in the model's state -/
def melE (γ : jG) (h : jM) (ls : List Nat) (V : VV) (i z a e : Nat) (ys : List Nat) (C : Int → Int) : Prop := h.tag z = 12 ∧ h.I 12 z 0 = tonsP V i ∧ h.R 12 z 1 = some a ∧ isLs γ h a e ys ∧ ow h a = some (100 + i) ∧ (ys.length : Int) = V 153 i ∧ lays h ys (fun k => V 154 (20 * i + k)) (fun k => ldR ls (V 155 (20 * i + k))) C (fun k => pP V (20 * i + k))
theorem melE.c {i z a e : Nat} {ys : List Nat} {C : Int → Int} (F : FrC h h' S) (hE : melE γ h ls V i z a e ys C) (h1 : ¬ S 12) (h2 : ¬ S (5100 + i)) (h3 : ¬ S 10) (h4 : ¬ S 110) : melE γ h' ls V i z a e ys C := by
  obtain ⟨a1, a0, a2, a3, a4, a5, a6⟩ := hE
  have hw : ¬ S (kc h z) := by rw [kc_o a1 (by decide)]; exact h1
  exact ⟨F.tag a1 (by decide), by rw [F.I a1 (by decide) hw]; exact a0, by rw [F.R a1 (by decide) hw]; exact a2, a3.c F a4 (by rw [← Nat.add_assoc]; exact h2) (fun y hy => ⟨a6.tag hy, h3⟩), by rw [F.ow (by have := a3.1.1; omega)]; exact a4, a5, a6.c F h3 h4⟩
def repF (γ : jG) (h : jM) (ρ : Nat → Nat) (ms ls : List Nat) (V : VV) : Prop := isLi γ h 4 (ρ 4) ms ∧ (ms.length : Int) = V 16 52 ∧ ∀ (i z : Nat), ms[i]? = some z → ∃ a e ys C, melE γ h ls V i z a e ys C
theorem repF.c (F : FrC h h' S) (hF : repF γ h ρ ms ls V) (h0 : ¬ S 5004) (h1 : ¬ S 12) (h2 : ∀ i : Nat, i < ms.length → ¬ S (5100 + i)) (h3 : ¬ S 10) (h4 : ¬ S 110) : repF γ h' ρ ms ls V := ⟨hF.1.c F h0, hF.2.1, fun i z hz => by
  obtain ⟨a, e, ys, C, b⟩ := hF.2.2 i z hz
  exact ⟨a, e, ys, C, b.c F h1 (h2 i (List.getElem?_eq_some_iff.mp hz).1) h3 h4⟩⟩
def repG (h : jM) (ρ : Nat → Nat) (x : Nat) (V : VV) : Prop := isO h (ρ 6) x (aP V)
theorem repG.c (F : FrC h h' S) (hG : repG h ρ x V) (hx : h.tag x = 15) (h1 : ¬ S 115) : repG h' ρ x V := isO.c F hG hx h1
def repH (γ : jG) (h : jM) (ρ : Nat → Nat) (V : VV) : Prop := ∃ e T, isSB γ h (ρ 8) e (V 16 10) T ∧ ∀ i, 0 ≤ i → i < V 16 10 → T i = V 116 i
theorem isSB.keptW {W : Nat → Prop} {a e : Nat} {n : Int} {T : Int → Int} (F : Fr h h' W) (hS : isSB γ h a e n T) (h1 : ¬ W a) (h2 : ¬ W e) : isSB γ h' a e n T := by
  obtain ⟨a1, a2, a3, a4, a5, a6, a7, a8, a9, a10, a11⟩ := hS
  have l := F.len (b := e) (by omega)
  exact ⟨F.tag a1 (by decide), by rw [F.R a1 (by decide) h1]; exact a2, F.tag a3 (by decide), by rw [F.I a1 (by decide) h1]; exact a4, by rw [F.I a1 (by decide) h1]; exact a5, a6, by rw [l]; exact a7, by rw [l]; exact a8, a9, fun i hi => by rw [F.I a3 (by decide) h2]; exact a10 i (by rw [← l]; exact hi), fun i hi => by rw [F.I a3 (by decide) h2]; exact a11 i hi⟩
theorem repH.c (F : FrC h h' S) (hH : repH γ h ρ V) (h1 : ¬ S 2) (h2 : ¬ S 35) : repH γ h' ρ V := by
  obtain ⟨e, T, a1, a2⟩ := hH
  exact ⟨e, T, a1.keptW F (fun z => h1 (by rw [← kc_o a1.1 (by decide)]; exact z)) (fun z => h2 (by rw [← kc_o a1.2.2.1 (by decide)]; exact z)), a2⟩
theorem srOk.c (F : FrC h h' S) (hS : srOk h σ) (h1 : ∀ t, 24 ≤ t → t ≤ 32 → ¬ S t) (h4 : ¬ S 4) : srOk h' σ := by
  obtain ⟨⟨t0, ⟨r24, t24, l24⟩, ⟨r25, t25, l25⟩, ⟨r26, t26, l26⟩, ⟨r31, t31, l31⟩, ⟨r32', t32, l32⟩, ⟨r29, t29, l29⟩, ⟨r30, t30, l30⟩, rg, rl⟩, b⟩ := hS
  have w0 : ¬ S (kc h (σ 0)) := by rw [kc_o t0 (by decide)]; exact h4
  have wt : ∀ a t, h.tag a = t → 24 ≤ t → t ≤ 32 → ¬ S (kc h a) := fun a t ha h2 h3 => by rw [kc_o ha (by omega)]; exact h1 t h2 h3
  have ln : ∀ a t n, h.tag a = t → t ≠ 0 → h.len a = n → h'.len a = n := fun a t n ha h0 hn => by rw [F.len (by omega)]; exact hn
  refine ⟨⟨F.tag t0 (by decide), ⟨by rw [F.R t0 (by decide) w0]; exact r24, F.tag t24 (by decide), ln _ _ _ t24 (by decide) l24⟩, ⟨by rw [F.R t0 (by decide) w0]; exact r25, F.tag t25 (by decide), ln _ _ _ t25 (by decide) l25⟩, ⟨by rw [F.R t0 (by decide) w0]; exact r26, F.tag t26 (by decide), ln _ _ _ t26 (by decide) l26⟩, ⟨by rw [F.R t0 (by decide) w0]; exact r31, F.tag t31 (by decide), ln _ _ _ t31 (by decide) l31⟩, ⟨by rw [F.R t0 (by decide) w0]; exact r32', F.tag t32 (by decide), ln _ _ _ t32 (by decide) l32⟩, ⟨by rw [F.R t0 (by decide) w0]; exact r29, F.tag t29 (by decide), ln _ _ _ t29 (by decide) l29⟩, ⟨by rw [F.R t0 (by decide) w0]; exact r30, F.tag t30 (by decide), ln _ _ _ t30 (by decide) l30⟩, fun s hs => ?_, fun s hs => ?_⟩, fun s hs => ⟨?_, ?_, fun g g0 g1 => ?_⟩⟩
  · obtain ⟨p1, p2, p3⟩ := rg s hs
    exact ⟨by rw [F.R t31 (by decide) (wt _ _ t31 (by decide) (by decide))]; exact p1, F.tag p2 (by decide), ln _ _ _ p2 (by decide) p3⟩
  · obtain ⟨p1, p2, p3⟩ := rl s hs
    exact ⟨by rw [F.R t32 (by decide) (wt _ _ t32 (by decide) (by decide))]; exact p1, F.tag p2 (by decide), ln _ _ _ p2 (by decide) p3⟩
  · exact (F.I t30 (by decide) (wt _ _ t30 (by decide) (by decide)) _).trans (b s hs).1
  · exact (F.I (rl s hs).2.1 (by decide) (wt _ _ (rl s hs).2.1 (by decide) (by decide)) _).trans (b s hs).2.1
  · exact (F.I (rg s hs).2.1 (by decide) (wt _ _ (rg s hs).2.1 (by decide) (by decide)) _).trans ((b s hs).2.2 g g0 g1)
/-- the class's object x is in the state V -/
def RepB (γ : jG) (V : VV) (h : jM) (x : Nat) (ρ σ : Nat → Nat) (ks ss cs ls ms : List Nat) : Prop := repX h x ρ σ V ∧ repA γ h ρ ks V ∧ repB γ h ρ ss V ∧ repT γ h ρ cs ss V ∧ repD γ h ρ ls ss ks cs V ∧ repE γ h ρ ls V ∧ repF γ h ρ ms ls V ∧ repG h ρ x V ∧ repH γ h ρ V ∧ srOk h σ ∧ isK γ h
def RepC (γ : jG) (V : VV) (h : jM) (x : Nat) : Prop := ∃ ρ σ ks ss cs ls ms, RepB γ V h x ρ σ ks ss cs ls ms
end RP

