section JR
variable {γ : jG} {μ : jMth} {f mc ms cells slots : Nat} {h : jM} {pc : Nat} {lv : List (Nat × Value)} {st : List Value} {Q : Option Value → jM → Prop} {X : String → jM → Prop}
theorem J.iconst {n : Int} {pc' : Nat} (hc : μ.cm pc = some (.iconst n, 1)) (hp : pc + 1 = pc')  (kk : J γ μ f mc ms cells slots h pc' lv (.int (jI n) :: st) Q X) : J γ μ f mc ms cells slots h pc lv st Q X := by
  subst hp
  intro p e s m args below meth c C H locs ls hH hz hlo hl
  exact lv_iconst C.hx C.hb (C.dec hc) rfl (kk p e s m args below meth c C H locs ls hH hz hlo hl)
theorem J.bipush {n : Int} {pc' : Nat} (hc : μ.cm pc = some (.bipush n, 2)) (hp : pc + 2 = pc') (hn : -128 ≤ n ∧ n ≤ 127) (kk : J γ μ f mc ms cells slots h pc' lv (.int (jI n) :: st) Q X) : J γ μ f mc ms cells slots h pc lv st Q X := by
  subst hp
  intro p e s m args below meth c C H locs ls hH hz hlo hl
  exact lv_bipush C.hx C.hb (C.dec hc) (jI_lit8 hn) (kk p e s m args below meth c C H locs ls hH hz hlo hl)
theorem J.sipush {n : Int} {pc' : Nat} (hc : μ.cm pc = some (.sipush n, 3)) (hp : pc + 3 = pc') (hn : -32768 ≤ n ∧ n ≤ 32767) (kk : J γ μ f mc ms cells slots h pc' lv (.int (jI n) :: st) Q X) : J γ μ f mc ms cells slots h pc lv st Q X := by
  subst hp
  intro p e s m args below meth c C H locs ls hH hz hlo hl
  exact lv_sipush C.hx C.hb (C.dec hc) (jI_lit16 hn) (kk p e s m args below meth c C H locs ls hH hz hlo hl)
theorem J.lconst {n : Fin 2} {pc' : Nat} (hc : μ.cm pc = some (.lconst n, 1)) (hp : pc + 1 = pc')  (kk : J γ μ f mc ms cells slots h pc' lv (.long (jL (n.val : Int)) :: st) Q X) : J γ μ f mc ms cells slots h pc lv st Q X := by
  subst hp
  intro p e s m args below meth c C H locs ls hH hz hlo hl
  exact lv_lconst C.hx C.hb (C.dec hc) (by match n with | 0 => rfl | 1 => rfl) (kk p e s m args below meth c C H locs ls hH hz hlo hl)
theorem J.null  {pc' : Nat} (hc : μ.cm pc = some (.aconst_null, 1)) (hp : pc + 1 = pc')  (kk : J γ μ f mc ms cells slots h pc' lv (.null :: st) Q X) : J γ μ f mc ms cells slots h pc lv st Q X := by
  subst hp
  intro p e s m args below meth c C H locs ls hH hz hlo hl
  exact lv_null C.hx C.hb (C.dec hc) (kk p e s m args below meth c C H locs ls hH hz hlo hl)
theorem J.iload_n {k : Fin 4} {z : Int} {pc' : Nat} (hc : μ.cm pc = some (.iload_n k, 1)) (hp : pc + 1 = pc') (hg : jGet lv k.val = some (.int (jI z))) (kk : J γ μ f mc ms cells slots h pc' lv (.int (jI z) :: st) Q X) : J γ μ f mc ms cells slots h pc lv st Q X := by
  subst hp
  intro p e s m args below meth c C H locs ls hH hz hlo hl
  exact lv_iload_n C.hx C.hb (C.dec hc) rfl (jGet_at hl hg) (kk p e s m args below meth c C H locs ls hH hz hlo hl)
theorem J.lload_n {k : Fin 4} {z : Int} {pc' : Nat} (hc : μ.cm pc = some (.lload_n k, 1)) (hp : pc + 1 = pc') (hg : jGet lv k.val = some (.long (jL z))) (kk : J γ μ f mc ms cells slots h pc' lv (.long (jL z) :: st) Q X) : J γ μ f mc ms cells slots h pc lv st Q X := by
  subst hp
  intro p e s m args below meth c C H locs ls hH hz hlo hl
  exact lv_lload_n C.hx C.hb (C.dec hc) rfl (jGet_at hl hg) (kk p e s m args below meth c C H locs ls hH hz hlo hl)
theorem J.aload_n {k : Fin 4} {a : Nat} {pc' : Nat} (hc : μ.cm pc = some (.aload_n k, 1)) (hp : pc + 1 = pc') (hg : jGet lv k.val = some (.ref a)) (kk : J γ μ f mc ms cells slots h pc' lv (.ref a :: st) Q X) : J γ μ f mc ms cells slots h pc lv st Q X := by
  subst hp
  intro p e s m args below meth c C H locs ls hH hz hlo hl
  exact lv_aload_n C.hx C.hb (C.dec hc) rfl (jGet_at hl hg) (kk p e s m args below meth c C H locs ls hH hz hlo hl)
theorem J.aload_nN {k : Fin 4} {pc' : Nat} (hc : μ.cm pc = some (.aload_n k, 1)) (hp : pc + 1 = pc') (hg : jGet lv k.val = some .null) (kk : J γ μ f mc ms cells slots h pc' lv (.null :: st) Q X) : J γ μ f mc ms cells slots h pc lv st Q X := by
  subst hp
  intro p e s m args below meth c C H locs ls hH hz hlo hl
  exact lv_aload_nN C.hx C.hb (C.dec hc) rfl (jGet_at hl hg) (kk p e s m args below meth c C H locs ls hH hz hlo hl)
theorem J.istore_n {k : Fin 4} {z : Int} {pc' : Nat} (hc : μ.cm pc = some (.istore_n k, 1)) (hp : pc + 1 = pc') (hn : k.val < μ.mL) (kk : J γ μ f mc ms cells slots h pc' (jS1 lv k.val (.int (jI z))) st Q X) : J γ μ f mc ms cells slots h pc lv (.int (jI z) :: st) Q X := by
  subst hp
  intro p e s m args below meth c C H locs ls hH hz hlo hl
  exact lv_istore_n C.hx C.hb (C.dec hc) rfl hl hn rfl (fun ls hl => kk p e s m args below meth c C H locs ls hH hz hlo (jPut_has hl))
theorem J.lstore_n {k : Fin 4} {z : Int} {pc' : Nat} (hc : μ.cm pc = some (.lstore_n k, 1)) (hp : pc + 1 = pc') (hn : k.val + 1 < μ.mL) (kk : J γ μ f mc ms cells slots h pc' (jS2 lv k.val (.long (jL z))) st Q X) : J γ μ f mc ms cells slots h pc lv (.long (jL z) :: st) Q X := by
  subst hp
  intro p e s m args below meth c C H locs ls hH hz hlo hl
  exact lv_lstore_n C.hx C.hb (C.dec hc) rfl hl hn rfl (fun ls hl => kk p e s m args below meth c C H locs ls hH hz hlo (jPut_has hl))
theorem J.astore_n {k : Fin 4} {a : Nat} {pc' : Nat} (hc : μ.cm pc = some (.astore_n k, 1)) (hp : pc + 1 = pc') (hn : k.val < μ.mL) (kk : J γ μ f mc ms cells slots h pc' (jS1 lv k.val (.ref a)) st Q X) : J γ μ f mc ms cells slots h pc lv (.ref a :: st) Q X := by
  subst hp
  intro p e s m args below meth c C H locs ls hH hz hlo hl
  exact lv_astore_n C.hx C.hb (C.dec hc) rfl hl hn rfl (fun ls hl => kk p e s m args below meth c C H locs ls hH hz hlo (jPut_has hl))
theorem J.astore_nN {k : Fin 4} {pc' : Nat} (hc : μ.cm pc = some (.astore_n k, 1)) (hp : pc + 1 = pc') (hn : k.val < μ.mL) (kk : J γ μ f mc ms cells slots h pc' (jS1 lv k.val .null) st Q X) : J γ μ f mc ms cells slots h pc lv (.null :: st) Q X := by
  subst hp
  intro p e s m args below meth c C H locs ls hH hz hlo hl
  exact lv_astore_nN C.hx C.hb (C.dec hc) rfl hl hn rfl (fun ls hl => kk p e s m args below meth c C H locs ls hH hz hlo (jPut_has hl))
theorem J.iload {k : Nat} {z : Int} {pc' : Nat} (hc : μ.cm pc = some (.iload k, 2)) (hp : pc + 2 = pc') (hg : jGet lv k = some (.int (jI z))) (kk : J γ μ f mc ms cells slots h pc' lv (.int (jI z) :: st) Q X) : J γ μ f mc ms cells slots h pc lv st Q X := by
  subst hp
  intro p e s m args below meth c C H locs ls hH hz hlo hl
  exact lv_iload C.hx C.hb (C.dec hc) (jGet_at hl hg) (kk p e s m args below meth c C H locs ls hH hz hlo hl)
theorem J.lload {k : Nat} {z : Int} {pc' : Nat} (hc : μ.cm pc = some (.lload k, 2)) (hp : pc + 2 = pc') (hg : jGet lv k = some (.long (jL z))) (kk : J γ μ f mc ms cells slots h pc' lv (.long (jL z) :: st) Q X) : J γ μ f mc ms cells slots h pc lv st Q X := by
  subst hp
  intro p e s m args below meth c C H locs ls hH hz hlo hl
  exact lv_lload C.hx C.hb (C.dec hc) (jGet_at hl hg) (kk p e s m args below meth c C H locs ls hH hz hlo hl)
theorem J.aload {k : Nat} {a : Nat} {pc' : Nat} (hc : μ.cm pc = some (.aload k, 2)) (hp : pc + 2 = pc') (hg : jGet lv k = some (.ref a)) (kk : J γ μ f mc ms cells slots h pc' lv (.ref a :: st) Q X) : J γ μ f mc ms cells slots h pc lv st Q X := by
  subst hp
  intro p e s m args below meth c C H locs ls hH hz hlo hl
  exact lv_aload C.hx C.hb (C.dec hc) (jGet_at hl hg) (kk p e s m args below meth c C H locs ls hH hz hlo hl)
theorem J.aloadN {k : Nat} {pc' : Nat} (hc : μ.cm pc = some (.aload k, 2)) (hp : pc + 2 = pc') (hg : jGet lv k = some .null) (kk : J γ μ f mc ms cells slots h pc' lv (.null :: st) Q X) : J γ μ f mc ms cells slots h pc lv st Q X := by
  subst hp
  intro p e s m args below meth c C H locs ls hH hz hlo hl
  exact lv_aloadN C.hx C.hb (C.dec hc) (jGet_at hl hg) (kk p e s m args below meth c C H locs ls hH hz hlo hl)
theorem J.istore {k : Nat} {z : Int} {pc' : Nat} (hc : μ.cm pc = some (.istore k, 2)) (hp : pc + 2 = pc') (hn : k < μ.mL) (kk : J γ μ f mc ms cells slots h pc' (jS1 lv k (.int (jI z))) st Q X) : J γ μ f mc ms cells slots h pc lv (.int (jI z) :: st) Q X := by
  subst hp
  intro p e s m args below meth c C H locs ls hH hz hlo hl
  exact lv_istore C.hx C.hb (C.dec hc) hl hn rfl (fun ls hl => kk p e s m args below meth c C H locs ls hH hz hlo (jPut_has hl))
theorem J.lstore {k : Nat} {z : Int} {pc' : Nat} (hc : μ.cm pc = some (.lstore k, 2)) (hp : pc + 2 = pc') (hn : k + 1 < μ.mL) (kk : J γ μ f mc ms cells slots h pc' (jS2 lv k (.long (jL z))) st Q X) : J γ μ f mc ms cells slots h pc lv (.long (jL z) :: st) Q X := by
  subst hp
  intro p e s m args below meth c C H locs ls hH hz hlo hl
  exact lv_lstore C.hx C.hb (C.dec hc) hl hn rfl (fun ls hl => kk p e s m args below meth c C H locs ls hH hz hlo (jPut_has hl))
theorem J.astore {k : Nat} {a : Nat} {pc' : Nat} (hc : μ.cm pc = some (.astore k, 2)) (hp : pc + 2 = pc') (hn : k < μ.mL) (kk : J γ μ f mc ms cells slots h pc' (jS1 lv k (.ref a)) st Q X) : J γ μ f mc ms cells slots h pc lv (.ref a :: st) Q X := by
  subst hp
  intro p e s m args below meth c C H locs ls hH hz hlo hl
  exact lv_astore C.hx C.hb (C.dec hc) hl hn rfl (fun ls hl => kk p e s m args below meth c C H locs ls hH hz hlo (jPut_has hl))
theorem J.astoreN {k : Nat} {pc' : Nat} (hc : μ.cm pc = some (.astore k, 2)) (hp : pc + 2 = pc') (hn : k < μ.mL) (kk : J γ μ f mc ms cells slots h pc' (jS1 lv k .null) st Q X) : J γ μ f mc ms cells slots h pc lv (.null :: st) Q X := by
  subst hp
  intro p e s m args below meth c C H locs ls hH hz hlo hl
  exact lv_astoreN C.hx C.hb (C.dec hc) hl hn rfl (fun ls hl => kk p e s m args below meth c C H locs ls hH hz hlo (jPut_has hl))
theorem jGet_ix {lv : List (Nat × Value)} {i : Nat} {v : Value} (h : jGet lv i = some v) : ∃ k : Nat, lv[k]? = some (i, v) := by
  obtain ⟨k, hk⟩ := List.getElem?_of_mem (jGet_in h)
  exact ⟨k, hk⟩
theorem J.iinc {i : Nat} {n z : Int} {pc' : Nat} (hc : μ.cm pc = some (.iinc i n, 3)) (hp : pc + 3 = pc') (hg : jGet lv i = some (.int (jI z))) (hn : i < μ.mL) (kk : J γ μ f mc ms cells slots h pc' (jS1 lv i (.int (jI (z + n)))) st Q X) : J γ μ f mc ms cells slots h pc lv st Q X := by
  subst hp
  intro p e s m args below meth c C H locs ls hH hz hlo hl
  obtain ⟨k, hk⟩ := jGet_ix hg
  exact lv_iinc C.hx C.hb (C.dec hc) hl hk (jI_add z n) hn rfl (fun ls hl => kk p e s m args below meth c C H locs ls hH hz hlo (jPut_has hl))
theorem J.iadd {x y : Int} {pc' : Nat} (hc : μ.cm pc = some (.iadd, 1)) (hp : pc + 1 = pc') (kk : J γ μ f mc ms cells slots h pc' lv (.int (jI (x + y)) :: st) Q X) : J γ μ f mc ms cells slots h pc lv (.int (jI y) :: .int (jI x) :: st) Q X := by
  subst hp
  intro p e s m args below meth c C H locs ls hH hz hlo hl
  exact lv_iadd C.hx C.hb (C.dec hc) (by rw [jI_add]; exact kk p e s m args below meth c C H locs ls hH hz hlo hl)
theorem J.isub {x y : Int} {pc' : Nat} (hc : μ.cm pc = some (.isub, 1)) (hp : pc + 1 = pc') (kk : J γ μ f mc ms cells slots h pc' lv (.int (jI (x - y)) :: st) Q X) : J γ μ f mc ms cells slots h pc lv (.int (jI y) :: .int (jI x) :: st) Q X := by
  subst hp
  intro p e s m args below meth c C H locs ls hH hz hlo hl
  exact lv_isub C.hx C.hb (C.dec hc) (by rw [jI_sub]; exact kk p e s m args below meth c C H locs ls hH hz hlo hl)
theorem J.imul {x y : Int} {pc' : Nat} (hc : μ.cm pc = some (.imul, 1)) (hp : pc + 1 = pc') (kk : J γ μ f mc ms cells slots h pc' lv (.int (jI (x * y)) :: st) Q X) : J γ μ f mc ms cells slots h pc lv (.int (jI y) :: .int (jI x) :: st) Q X := by
  subst hp
  intro p e s m args below meth c C H locs ls hH hz hlo hl
  exact lv_imul C.hx C.hb (C.dec hc) (by rw [jI_mul]; exact kk p e s m args below meth c C H locs ls hH hz hlo hl)
theorem J.ladd {x y : Int} {pc' : Nat} (hc : μ.cm pc = some (.ladd, 1)) (hp : pc + 1 = pc') (kk : J γ μ f mc ms cells slots h pc' lv (.long (jL (x + y)) :: st) Q X) : J γ μ f mc ms cells slots h pc lv (.long (jL y) :: .long (jL x) :: st) Q X := by
  subst hp
  intro p e s m args below meth c C H locs ls hH hz hlo hl
  exact lv_ladd C.hx C.hb (C.dec hc) (by rw [jL_add]; exact kk p e s m args below meth c C H locs ls hH hz hlo hl)
theorem J.lsub {x y : Int} {pc' : Nat} (hc : μ.cm pc = some (.lsub, 1)) (hp : pc + 1 = pc') (kk : J γ μ f mc ms cells slots h pc' lv (.long (jL (x - y)) :: st) Q X) : J γ μ f mc ms cells slots h pc lv (.long (jL y) :: .long (jL x) :: st) Q X := by
  subst hp
  intro p e s m args below meth c C H locs ls hH hz hlo hl
  exact lv_lsub C.hx C.hb (C.dec hc) (by rw [jL_sub]; exact kk p e s m args below meth c C H locs ls hH hz hlo hl)
theorem J.lmul {x y : Int} {pc' : Nat} (hc : μ.cm pc = some (.lmul, 1)) (hp : pc + 1 = pc') (kk : J γ μ f mc ms cells slots h pc' lv (.long (jL (x * y)) :: st) Q X) : J γ μ f mc ms cells slots h pc lv (.long (jL y) :: .long (jL x) :: st) Q X := by
  subst hp
  intro p e s m args below meth c C H locs ls hH hz hlo hl
  exact lv_lmul C.hx C.hb (C.dec hc) (by rw [jL_mul]; exact kk p e s m args below meth c C H locs ls hH hz hlo hl)
theorem J.idiv {x y : Int} {pc' : Nat} (hc : μ.cm pc = some (.idiv, 1)) (hp : pc + 1 = pc') (hx : r32 x) (hy : r32 y) (h0 : y ≠ 0) (kk : J γ μ f mc ms cells slots h pc' lv (.int (jI (x.tdiv y)) :: st) Q X) : J γ μ f mc ms cells slots h pc lv (.int (jI y) :: .int (jI x) :: st) Q X := by
  subst hp
  intro p e s m args below meth c C H locs ls hH hz hlo hl
  exact lv_idiv C.hx C.hb (C.dec hc) (jI_ne0 hy h0) (by rw [jI_div hx hy h0]; exact kk p e s m args below meth c C H locs ls hH hz hlo hl)
theorem J.irem {x y : Int} {pc' : Nat} (hc : μ.cm pc = some (.irem, 1)) (hp : pc + 1 = pc') (hx : r32 x) (hy : r32 y) (h0 : y ≠ 0) (kk : J γ μ f mc ms cells slots h pc' lv (.int (jI (x.tmod y)) :: st) Q X) : J γ μ f mc ms cells slots h pc lv (.int (jI y) :: .int (jI x) :: st) Q X := by
  subst hp
  intro p e s m args below meth c C H locs ls hH hz hlo hl
  exact lv_irem C.hx C.hb (C.dec hc) (jI_ne0 hy h0) (by rw [jI_rem hx hy h0]; exact kk p e s m args below meth c C H locs ls hH hz hlo hl)
theorem J.ldiv {x y : Int} {pc' : Nat} (hc : μ.cm pc = some (.ldiv, 1)) (hp : pc + 1 = pc') (hx : r64 x) (hy : r64 y) (h0 : y ≠ 0) (kk : J γ μ f mc ms cells slots h pc' lv (.long (jL (x.tdiv y)) :: st) Q X) : J γ μ f mc ms cells slots h pc lv (.long (jL y) :: .long (jL x) :: st) Q X := by
  subst hp
  intro p e s m args below meth c C H locs ls hH hz hlo hl
  exact lv_ldiv C.hx C.hb (C.dec hc) (jL_ne0 hy h0) (by rw [jL_div hx hy h0]; exact kk p e s m args below meth c C H locs ls hH hz hlo hl)
theorem J.lrem {x y : Int} {pc' : Nat} (hc : μ.cm pc = some (.lrem, 1)) (hp : pc + 1 = pc') (hx : r64 x) (hy : r64 y) (h0 : y ≠ 0) (kk : J γ μ f mc ms cells slots h pc' lv (.long (jL (x.tmod y)) :: st) Q X) : J γ μ f mc ms cells slots h pc lv (.long (jL y) :: .long (jL x) :: st) Q X := by
  subst hp
  intro p e s m args below meth c C H locs ls hH hz hlo hl
  exact lv_lrem C.hx C.hb (C.dec hc) (jL_ne0 hy h0) (by rw [jL_rem hx hy h0]; exact kk p e s m args below meth c C H locs ls hH hz hlo hl)
theorem J.ineg {x : Int} {pc' : Nat} (hc : μ.cm pc = some (.ineg, 1)) (hp : pc + 1 = pc') (kk : J γ μ f mc ms cells slots h pc' lv (.int (jI (-x)) :: st) Q X) : J γ μ f mc ms cells slots h pc lv (.int (jI x) :: st) Q X := by
  subst hp
  intro p e s m args below meth c C H locs ls hH hz hlo hl
  exact lv_ineg C.hx C.hb (C.dec hc) (by rw [jI_neg]; exact kk p e s m args below meth c C H locs ls hH hz hlo hl)
theorem J.lneg {x : Int} {pc' : Nat} (hc : μ.cm pc = some (.lneg, 1)) (hp : pc + 1 = pc') (kk : J γ μ f mc ms cells slots h pc' lv (.long (jL (-x)) :: st) Q X) : J γ μ f mc ms cells slots h pc lv (.long (jL x) :: st) Q X := by
  subst hp
  intro p e s m args below meth c C H locs ls hH hz hlo hl
  exact lv_lneg C.hx C.hb (C.dec hc) (by rw [jL_neg]; exact kk p e s m args below meth c C H locs ls hH hz hlo hl)
theorem J.iand {x y : Int} (z : Int) {pc' : Nat} (hc : μ.cm pc = some (.iand, 1)) (hp : pc + 1 = pc') (he : jI x &&& jI y = jI z) (kk : J γ μ f mc ms cells slots h pc' lv (.int (jI z) :: st) Q X) : J γ μ f mc ms cells slots h pc lv (.int (jI y) :: .int (jI x) :: st) Q X := by
  subst hp
  intro p e s m args below meth c C H locs ls hH hz hlo hl
  exact lv_iand C.hx C.hb (C.dec hc) (by rw [he]; exact kk p e s m args below meth c C H locs ls hH hz hlo hl)
theorem J.ior {x y : Int} (z : Int) {pc' : Nat} (hc : μ.cm pc = some (.ior, 1)) (hp : pc + 1 = pc') (he : jI x ||| jI y = jI z) (kk : J γ μ f mc ms cells slots h pc' lv (.int (jI z) :: st) Q X) : J γ μ f mc ms cells slots h pc lv (.int (jI y) :: .int (jI x) :: st) Q X := by
  subst hp
  intro p e s m args below meth c C H locs ls hH hz hlo hl
  exact lv_ior C.hx C.hb (C.dec hc) (by rw [he]; exact kk p e s m args below meth c C H locs ls hH hz hlo hl)
theorem J.ixor {x y : Int} (z : Int) {pc' : Nat} (hc : μ.cm pc = some (.ixor, 1)) (hp : pc + 1 = pc') (he : jI x ^^^ jI y = jI z) (kk : J γ μ f mc ms cells slots h pc' lv (.int (jI z) :: st) Q X) : J γ μ f mc ms cells slots h pc lv (.int (jI y) :: .int (jI x) :: st) Q X := by
  subst hp
  intro p e s m args below meth c C H locs ls hH hz hlo hl
  exact lv_ixor C.hx C.hb (C.dec hc) (by rw [he]; exact kk p e s m args below meth c C H locs ls hH hz hlo hl)
theorem J.lor {x y : Int} (z : Int) {pc' : Nat} (hc : μ.cm pc = some (.lor, 1)) (hp : pc + 1 = pc') (he : jL x ||| jL y = jL z) (kk : J γ μ f mc ms cells slots h pc' lv (.long (jL z) :: st) Q X) : J γ μ f mc ms cells slots h pc lv (.long (jL y) :: .long (jL x) :: st) Q X := by
  subst hp
  intro p e s m args below meth c C H locs ls hH hz hlo hl
  exact lv_lor C.hx C.hb (C.dec hc) (by rw [he]; exact kk p e s m args below meth c C H locs ls hH hz hlo hl)
theorem J.land {x y : Int} (z : Int) {pc' : Nat} (hc : μ.cm pc = some (.land, 1)) (hp : pc + 1 = pc') (he : jL x &&& jL y = jL z) (kk : J γ μ f mc ms cells slots h pc' lv (.long (jL z) :: st) Q X) : J γ μ f mc ms cells slots h pc lv (.long (jL y) :: .long (jL x) :: st) Q X := by
  subst hp
  intro p e s m args below meth c C H locs ls hH hz hlo hl
  exact lv_land C.hx C.hb (C.dec hc) (by rw [he]; exact kk p e s m args below meth c C H locs ls hH hz hlo hl)
theorem J.ishl {x y : Int} (z : Int) {pc' : Nat} (hc : μ.cm pc = some (.ishl, 1)) (hp : pc + 1 = pc') (he : jI x <<< (jI y &&& 31) = jI z) (kk : J γ μ f mc ms cells slots h pc' lv (.int (jI z) :: st) Q X) : J γ μ f mc ms cells slots h pc lv (.int (jI y) :: .int (jI x) :: st) Q X := by
  subst hp
  intro p e s m args below meth c C H locs ls hH hz hlo hl
  exact lv_ishl C.hx C.hb (C.dec hc) (by rw [he]; exact kk p e s m args below meth c C H locs ls hH hz hlo hl)
theorem J.ishr {x y : Int} (z : Int) {pc' : Nat} (hc : μ.cm pc = some (.ishr, 1)) (hp : pc + 1 = pc') (he : jI x >>> (jI y &&& 31) = jI z) (kk : J γ μ f mc ms cells slots h pc' lv (.int (jI z) :: st) Q X) : J γ μ f mc ms cells slots h pc lv (.int (jI y) :: .int (jI x) :: st) Q X := by
  subst hp
  intro p e s m args below meth c C H locs ls hH hz hlo hl
  exact lv_ishr C.hx C.hb (C.dec hc) (by rw [he]; exact kk p e s m args below meth c C H locs ls hH hz hlo hl)
theorem J.iushr {x y : Int} (z : Int) {pc' : Nat} (hc : μ.cm pc = some (.iushr, 1)) (hp : pc + 1 = pc') (he : ((jI x).toUInt32 >>> ((jI y).toUInt32 &&& Int32.toUInt32 31)).toInt32 = jI z) (kk : J γ μ f mc ms cells slots h pc' lv (.int (jI z) :: st) Q X) : J γ μ f mc ms cells slots h pc lv (.int (jI y) :: .int (jI x) :: st) Q X := by
  subst hp
  intro p e s m args below meth c C H locs ls hH hz hlo hl
  exact lv_iushr C.hx C.hb (C.dec hc) he (kk p e s m args below meth c C H locs ls hH hz hlo hl)
theorem J.lshl {x y : Int} (z : Int) {pc' : Nat} (hc : μ.cm pc = some (.lshl, 1)) (hp : pc + 1 = pc') (he : jL x <<< ((jI y).toInt64 &&& 63) = jL z) (kk : J γ μ f mc ms cells slots h pc' lv (.long (jL z) :: st) Q X) : J γ μ f mc ms cells slots h pc lv (.int (jI y) :: .long (jL x) :: st) Q X := by
  subst hp
  intro p e s m args below meth c C H locs ls hH hz hlo hl
  exact lv_lshl C.hx C.hb (C.dec hc) he (kk p e s m args below meth c C H locs ls hH hz hlo hl)
theorem J.i2l {x : Int} {pc' : Nat} (hc : μ.cm pc = some (.i2l, 1)) (hp : pc + 1 = pc') (hx : r32 x) (kk : J γ μ f mc ms cells slots h pc' lv (.long (jL x) :: st) Q X) : J γ μ f mc ms cells slots h pc lv (.int (jI x) :: st) Q X := by
  subst hp
  intro p e s m args below meth c C H locs ls hH hz hlo hl
  exact lv_i2l C.hx C.hb (C.dec hc) (jI_l hx) (kk p e s m args below meth c C H locs ls hH hz hlo hl)
theorem J.l2i {x : Int} {pc' : Nat} (hc : μ.cm pc = some (.l2i, 1)) (hp : pc + 1 = pc')  (kk : J γ μ f mc ms cells slots h pc' lv (.int (jI x) :: st) Q X) : J γ μ f mc ms cells slots h pc lv (.long (jL x) :: st) Q X := by
  subst hp
  intro p e s m args below meth c C H locs ls hH hz hlo hl
  exact lv_l2i C.hx C.hb (C.dec hc) (jL_i x) (kk p e s m args below meth c C H locs ls hH hz hlo hl)
theorem J.i2b {x : Int} {pc' : Nat} (hc : μ.cm pc = some (.i2b, 1)) (hp : pc + 1 = pc')  (kk : J γ μ f mc ms cells slots h pc' lv (.int (jI (x.bmod 256)) :: st) Q X) : J γ μ f mc ms cells slots h pc lv (.int (jI x) :: st) Q X := by
  subst hp
  intro p e s m args below meth c C H locs ls hH hz hlo hl
  exact lv_i2b C.hx C.hb (C.dec hc) (jI_b x) (kk p e s m args below meth c C H locs ls hH hz hlo hl)
theorem J.i2c {x : Int} (z : Int) {pc' : Nat} (hc : μ.cm pc = some (.i2c, 1)) (hp : pc + 1 = pc') (he : ((jI x).toUInt32 % 65536).toInt32 = jI z) (kk : J γ μ f mc ms cells slots h pc' lv (.int (jI z) :: st) Q X) : J γ μ f mc ms cells slots h pc lv (.int (jI x) :: st) Q X := by
  subst hp
  intro p e s m args below meth c C H locs ls hH hz hlo hl
  exact lv_i2c C.hx C.hb (C.dec hc) he (kk p e s m args below meth c C H locs ls hH hz hlo hl)
theorem J.lcmp {x y : Int} {pc' : Nat} (hc : μ.cm pc = some (.lcmp, 1)) (hp : pc + 1 = pc') (hx : r64 x) (hy : r64 y) (kk : J γ μ f mc ms cells slots h pc' lv (.int (jI (if y < x then 1 else if x = y then 0 else -1)) :: st) Q X) : J γ μ f mc ms cells slots h pc lv (.long (jL y) :: .long (jL x) :: st) Q X := by
  subst hp
  intro p e s m args below meth c C H locs ls hH hz hlo hl
  exact W.lcmp C.hx C.hb (C.dec hc) (by rw [jI_cmp hx hy]; exact (kk p e s m args below meth c C H locs ls hH hz hlo hl))
theorem J.dup {v : Value} {pc' : Nat} (hc : μ.cm pc = some (.dup, 1)) (hp : pc + 1 = pc') (hv : v.category = 1) (kk : J γ μ f mc ms cells slots h pc' lv (v :: v :: st) Q X) : J γ μ f mc ms cells slots h pc lv (v :: st) Q X := by
  subst hp
  intro p e s m args below meth c C H locs ls hH hz hlo hl
  exact lv_dup C.hx C.hb (C.dec hc) hv (kk p e s m args below meth c C H locs ls hH hz hlo hl)
theorem J.pop {v : Value} {pc' : Nat} (hc : μ.cm pc = some (.pop, 1)) (hp : pc + 1 = pc') (hv : v.category = 1) (kk : J γ μ f mc ms cells slots h pc' lv st Q X) : J γ μ f mc ms cells slots h pc lv (v :: st) Q X := by
  subst hp
  intro p e s m args below meth c C H locs ls hH hz hlo hl
  exact lv_pop C.hx C.hb (C.dec hc) hv (kk p e s m args below meth c C H locs ls hH hz hlo hl)
theorem J.dup_x1 {v w : Value} {pc' : Nat} (hc : μ.cm pc = some (.dup_x1, 1)) (hp : pc + 1 = pc') (hv : v.category = 1) (hw : w.category = 1) (kk : J γ μ f mc ms cells slots h pc' lv (v :: w :: v :: st) Q X) : J γ μ f mc ms cells slots h pc lv (v :: w :: st) Q X := by
  subst hp
  intro p e s m args below meth c C H locs ls hH hz hlo hl
  exact lv_dup_x1 C.hx C.hb (C.dec hc) hv hw (kk p e s m args below meth c C H locs ls hH hz hlo hl)
theorem J.dup2 {v w : Value} {pc' : Nat} (hc : μ.cm pc = some (.dup2, 1)) (hp : pc + 1 = pc') (hv : v.category = 1) (hw : w.category = 1) (kk : J γ μ f mc ms cells slots h pc' lv (v :: w :: v :: w :: st) Q X) : J γ μ f mc ms cells slots h pc lv (v :: w :: st) Q X := by
  subst hp
  intro p e s m args below meth c C H locs ls hH hz hlo hl
  exact lv_dup2_11 C.hx C.hb (C.dec hc) hv hw (kk p e s m args below meth c C H locs ls hH hz hlo hl)
theorem J.dup2L {v : Value} {pc' : Nat} (hc : μ.cm pc = some (.dup2, 1)) (hp : pc + 1 = pc') (hv : v.category = 2) (kk : J γ μ f mc ms cells slots h pc' lv (v :: v :: st) Q X) : J γ μ f mc ms cells slots h pc lv (v :: st) Q X := by
  subst hp
  intro p e s m args below meth c C H locs ls hH hz hlo hl
  exact lv_dup2_2 C.hx C.hb (C.dec hc) hv (kk p e s m args below meth c C H locs ls hH hz hlo hl)
theorem J.pop2L {v : Value} {pc' : Nat} (hc : μ.cm pc = some (.pop2, 1)) (hp : pc + 1 = pc') (hv : v.category = 2) (kk : J γ μ f mc ms cells slots h pc' lv st Q X) : J γ μ f mc ms cells slots h pc lv (v :: st) Q X := by
  subst hp
  intro p e s m args below meth c C H locs ls hH hz hlo hl
  exact lv_pop2_2 C.hx C.hb (C.dec hc) hv (kk p e s m args below meth c C H locs ls hH hz hlo hl)
theorem J.goto {off : Int} {tgt : Nat} (hc : μ.cm pc = some (.goto off, 3)) (ht : (pc : Int) + off = (tgt : Int)) (kk : J γ μ f mc ms cells slots h tgt lv st Q X) : J γ μ f mc ms cells slots h pc lv st Q X := by
  intro p e s m args below meth c C H locs ls hH hz hlo hl
  exact lv_goto C.hx C.hb (C.dec hc) ht (kk p e s m args below meth c C H locs ls hH hz hlo hl)
theorem J.icmp_eq {x y : Int} {off : Int} {tgt pc' : Nat} (hc : μ.cm pc = some (.if_icmp .eq off, 3)) (ht : (pc : Int) + off = (tgt : Int)) (hp : pc + 3 = pc') (hx : r32 x) (hy : r32 y) (kt : x = y → J γ μ f mc ms cells slots h tgt lv st Q X) (kf : ¬ x = y → J γ μ f mc ms cells slots h pc' lv st Q X) : J γ μ f mc ms cells slots h pc lv (.int (jI y) :: .int (jI x) :: st) Q X := by
  subst hp
  intro p e s m args below meth c C H locs ls hH hz hlo hl
  exact lv_icmp_eq C.hx C.hb (C.dec hc) ht (fun q => kt ((jI_eq hx hy).mp q) p e s m args below meth c C H locs ls hH hz hlo hl) (fun q => kf (fun w => q ((jI_eq hx hy).mpr w)) p e s m args below meth c C H locs ls hH hz hlo hl)
theorem J.if_eq {x : Int} {off : Int} {tgt pc' : Nat} (hc : μ.cm pc = some (.ifCond .eq off, 3)) (ht : (pc : Int) + off = (tgt : Int)) (hp : pc + 3 = pc') (hx : r32 x) (kt : x = 0 → J γ μ f mc ms cells slots h tgt lv st Q X) (kf : ¬ x = 0 → J γ μ f mc ms cells slots h pc' lv st Q X) : J γ μ f mc ms cells slots h pc lv (.int (jI x) :: st) Q X := by
  subst hp
  intro p e s m args below meth c C H locs ls hH hz hlo hl
  have hy : r32 0 := ⟨by omega, by omega⟩
  exact lv_if_eq C.hx C.hb (C.dec hc) ht (fun q => kt ((jI_eq hx hy).mp q) p e s m args below meth c C H locs ls hH hz hlo hl) (fun q => kf (fun w => q ((jI_eq hx hy).mpr w)) p e s m args below meth c C H locs ls hH hz hlo hl)
theorem J.icmp_ne {x y : Int} {off : Int} {tgt pc' : Nat} (hc : μ.cm pc = some (.if_icmp .ne off, 3)) (ht : (pc : Int) + off = (tgt : Int)) (hp : pc + 3 = pc') (hx : r32 x) (hy : r32 y) (kt : ¬ x = y → J γ μ f mc ms cells slots h tgt lv st Q X) (kf : x = y → J γ μ f mc ms cells slots h pc' lv st Q X) : J γ μ f mc ms cells slots h pc lv (.int (jI y) :: .int (jI x) :: st) Q X := by
  subst hp
  intro p e s m args below meth c C H locs ls hH hz hlo hl
  exact lv_icmp_ne C.hx C.hb (C.dec hc) ht (fun q => kt (fun w => q ((jI_eq hx hy).mpr w)) p e s m args below meth c C H locs ls hH hz hlo hl) (fun q => kf ((jI_eq hx hy).mp q) p e s m args below meth c C H locs ls hH hz hlo hl)
theorem J.if_ne {x : Int} {off : Int} {tgt pc' : Nat} (hc : μ.cm pc = some (.ifCond .ne off, 3)) (ht : (pc : Int) + off = (tgt : Int)) (hp : pc + 3 = pc') (hx : r32 x) (kt : ¬ x = 0 → J γ μ f mc ms cells slots h tgt lv st Q X) (kf : x = 0 → J γ μ f mc ms cells slots h pc' lv st Q X) : J γ μ f mc ms cells slots h pc lv (.int (jI x) :: st) Q X := by
  subst hp
  intro p e s m args below meth c C H locs ls hH hz hlo hl
  have hy : r32 0 := ⟨by omega, by omega⟩
  exact lv_if_ne C.hx C.hb (C.dec hc) ht (fun q => kt (fun w => q ((jI_eq hx hy).mpr w)) p e s m args below meth c C H locs ls hH hz hlo hl) (fun q => kf ((jI_eq hx hy).mp q) p e s m args below meth c C H locs ls hH hz hlo hl)
theorem J.icmp_lt {x y : Int} {off : Int} {tgt pc' : Nat} (hc : μ.cm pc = some (.if_icmp .lt off, 3)) (ht : (pc : Int) + off = (tgt : Int)) (hp : pc + 3 = pc') (hx : r32 x) (hy : r32 y) (kt : x < y → J γ μ f mc ms cells slots h tgt lv st Q X) (kf : ¬ x < y → J γ μ f mc ms cells slots h pc' lv st Q X) : J γ μ f mc ms cells slots h pc lv (.int (jI y) :: .int (jI x) :: st) Q X := by
  subst hp
  intro p e s m args below meth c C H locs ls hH hz hlo hl
  exact lv_icmp_lt C.hx C.hb (C.dec hc) ht (fun q => kt ((jI_lt hx hy).mp q) p e s m args below meth c C H locs ls hH hz hlo hl) (fun q => kf (fun w => q ((jI_lt hx hy).mpr w)) p e s m args below meth c C H locs ls hH hz hlo hl)
theorem J.if_lt {x : Int} {off : Int} {tgt pc' : Nat} (hc : μ.cm pc = some (.ifCond .lt off, 3)) (ht : (pc : Int) + off = (tgt : Int)) (hp : pc + 3 = pc') (hx : r32 x) (kt : x < 0 → J γ μ f mc ms cells slots h tgt lv st Q X) (kf : ¬ x < 0 → J γ μ f mc ms cells slots h pc' lv st Q X) : J γ μ f mc ms cells slots h pc lv (.int (jI x) :: st) Q X := by
  subst hp
  intro p e s m args below meth c C H locs ls hH hz hlo hl
  have hy : r32 0 := ⟨by omega, by omega⟩
  exact lv_if_lt C.hx C.hb (C.dec hc) ht (fun q => kt ((jI_lt hx hy).mp q) p e s m args below meth c C H locs ls hH hz hlo hl) (fun q => kf (fun w => q ((jI_lt hx hy).mpr w)) p e s m args below meth c C H locs ls hH hz hlo hl)
theorem J.icmp_ge {x y : Int} {off : Int} {tgt pc' : Nat} (hc : μ.cm pc = some (.if_icmp .ge off, 3)) (ht : (pc : Int) + off = (tgt : Int)) (hp : pc + 3 = pc') (hx : r32 x) (hy : r32 y) (kt : y ≤ x → J γ μ f mc ms cells slots h tgt lv st Q X) (kf : ¬ y ≤ x → J γ μ f mc ms cells slots h pc' lv st Q X) : J γ μ f mc ms cells slots h pc lv (.int (jI y) :: .int (jI x) :: st) Q X := by
  subst hp
  intro p e s m args below meth c C H locs ls hH hz hlo hl
  exact lv_icmp_ge C.hx C.hb (C.dec hc) ht (fun q => kt ((jI_le hy hx).mp q) p e s m args below meth c C H locs ls hH hz hlo hl) (fun q => kf (fun w => q ((jI_le hy hx).mpr w)) p e s m args below meth c C H locs ls hH hz hlo hl)
theorem J.if_ge {x : Int} {off : Int} {tgt pc' : Nat} (hc : μ.cm pc = some (.ifCond .ge off, 3)) (ht : (pc : Int) + off = (tgt : Int)) (hp : pc + 3 = pc') (hx : r32 x) (kt : 0 ≤ x → J γ μ f mc ms cells slots h tgt lv st Q X) (kf : ¬ 0 ≤ x → J γ μ f mc ms cells slots h pc' lv st Q X) : J γ μ f mc ms cells slots h pc lv (.int (jI x) :: st) Q X := by
  subst hp
  intro p e s m args below meth c C H locs ls hH hz hlo hl
  have hy : r32 0 := ⟨by omega, by omega⟩
  exact lv_if_ge C.hx C.hb (C.dec hc) ht (fun q => kt ((jI_le hy hx).mp q) p e s m args below meth c C H locs ls hH hz hlo hl) (fun q => kf (fun w => q ((jI_le hy hx).mpr w)) p e s m args below meth c C H locs ls hH hz hlo hl)
theorem J.icmp_gt {x y : Int} {off : Int} {tgt pc' : Nat} (hc : μ.cm pc = some (.if_icmp .gt off, 3)) (ht : (pc : Int) + off = (tgt : Int)) (hp : pc + 3 = pc') (hx : r32 x) (hy : r32 y) (kt : y < x → J γ μ f mc ms cells slots h tgt lv st Q X) (kf : ¬ y < x → J γ μ f mc ms cells slots h pc' lv st Q X) : J γ μ f mc ms cells slots h pc lv (.int (jI y) :: .int (jI x) :: st) Q X := by
  subst hp
  intro p e s m args below meth c C H locs ls hH hz hlo hl
  exact lv_icmp_gt C.hx C.hb (C.dec hc) ht (fun q => kt ((jI_lt hy hx).mp q) p e s m args below meth c C H locs ls hH hz hlo hl) (fun q => kf (fun w => q ((jI_lt hy hx).mpr w)) p e s m args below meth c C H locs ls hH hz hlo hl)
theorem J.if_gt {x : Int} {off : Int} {tgt pc' : Nat} (hc : μ.cm pc = some (.ifCond .gt off, 3)) (ht : (pc : Int) + off = (tgt : Int)) (hp : pc + 3 = pc') (hx : r32 x) (kt : 0 < x → J γ μ f mc ms cells slots h tgt lv st Q X) (kf : ¬ 0 < x → J γ μ f mc ms cells slots h pc' lv st Q X) : J γ μ f mc ms cells slots h pc lv (.int (jI x) :: st) Q X := by
  subst hp
  intro p e s m args below meth c C H locs ls hH hz hlo hl
  have hy : r32 0 := ⟨by omega, by omega⟩
  exact lv_if_gt C.hx C.hb (C.dec hc) ht (fun q => kt ((jI_lt hy hx).mp q) p e s m args below meth c C H locs ls hH hz hlo hl) (fun q => kf (fun w => q ((jI_lt hy hx).mpr w)) p e s m args below meth c C H locs ls hH hz hlo hl)
theorem J.icmp_le {x y : Int} {off : Int} {tgt pc' : Nat} (hc : μ.cm pc = some (.if_icmp .le off, 3)) (ht : (pc : Int) + off = (tgt : Int)) (hp : pc + 3 = pc') (hx : r32 x) (hy : r32 y) (kt : x ≤ y → J γ μ f mc ms cells slots h tgt lv st Q X) (kf : ¬ x ≤ y → J γ μ f mc ms cells slots h pc' lv st Q X) : J γ μ f mc ms cells slots h pc lv (.int (jI y) :: .int (jI x) :: st) Q X := by
  subst hp
  intro p e s m args below meth c C H locs ls hH hz hlo hl
  exact lv_icmp_le C.hx C.hb (C.dec hc) ht (fun q => kt ((jI_le hx hy).mp q) p e s m args below meth c C H locs ls hH hz hlo hl) (fun q => kf (fun w => q ((jI_le hx hy).mpr w)) p e s m args below meth c C H locs ls hH hz hlo hl)
theorem J.if_le {x : Int} {off : Int} {tgt pc' : Nat} (hc : μ.cm pc = some (.ifCond .le off, 3)) (ht : (pc : Int) + off = (tgt : Int)) (hp : pc + 3 = pc') (hx : r32 x) (kt : x ≤ 0 → J γ μ f mc ms cells slots h tgt lv st Q X) (kf : ¬ x ≤ 0 → J γ μ f mc ms cells slots h pc' lv st Q X) : J γ μ f mc ms cells slots h pc lv (.int (jI x) :: st) Q X := by
  subst hp
  intro p e s m args below meth c C H locs ls hH hz hlo hl
  have hy : r32 0 := ⟨by omega, by omega⟩
  exact lv_if_le C.hx C.hb (C.dec hc) ht (fun q => kt ((jI_le hx hy).mp q) p e s m args below meth c C H locs ls hH hz hlo hl) (fun q => kf (fun w => q ((jI_le hx hy).mpr w)) p e s m args below meth c C H locs ls hH hz hlo hl)
theorem J.ifnull {x : Nat} {off : Int} {pc' : Nat} (hc : μ.cm pc = some (.ifnull off, 3)) (hp : pc + 3 = pc') (kk : J γ μ f mc ms cells slots h pc' lv st Q X) : J γ μ f mc ms cells slots h pc lv (.ref x :: st) Q X := by
  intro p e s m args below meth c C H locs ls hH hz hlo hl
  subst hp; exact lv_ifnull C.hx C.hb (C.dec hc) (kk p e s m args below meth c C H locs ls hH hz hlo hl)
theorem J.ifnullN {off : Int} {tgt : Nat} (hc : μ.cm pc = some (.ifnull off, 3)) (ht : (pc : Int) + off = (tgt : Int)) (kk : J γ μ f mc ms cells slots h tgt lv st Q X) : J γ μ f mc ms cells slots h pc lv (.null :: st) Q X := by
  intro p e s m args below meth c C H locs ls hH hz hlo hl
  exact lv_ifnullN C.hx C.hb (C.dec hc) ht (kk p e s m args below meth c C H locs ls hH hz hlo hl)
theorem J.ifnonnull {x : Nat} {off : Int} {tgt : Nat} (hc : μ.cm pc = some (.ifnonnull off, 3)) (ht : (pc : Int) + off = (tgt : Int)) (kk : J γ μ f mc ms cells slots h tgt lv st Q X) : J γ μ f mc ms cells slots h pc lv (.ref x :: st) Q X := by
  intro p e s m args below meth c C H locs ls hH hz hlo hl
  exact lv_ifnonnull C.hx C.hb (C.dec hc) ht (kk p e s m args below meth c C H locs ls hH hz hlo hl)
theorem J.ifnonnullN {off : Int} {pc' : Nat} (hc : μ.cm pc = some (.ifnonnull off, 3)) (hp : pc + 3 = pc') (kk : J γ μ f mc ms cells slots h pc' lv st Q X) : J γ μ f mc ms cells slots h pc lv (.null :: st) Q X := by
  intro p e s m args below meth c C H locs ls hH hz hlo hl
  subst hp; exact lv_ifnonnullN C.hx C.hb (C.dec hc) (kk p e s m args below meth c C H locs ls hH hz hlo hl)
theorem J.acmp_eq {rx ry : Option Nat} {off : Int} {tgt pc' : Nat} (hc : μ.cm pc = some (.if_acmp .eq off, 3)) (ht : (pc : Int) + off = (tgt : Int)) (hp : pc + 3 = pc') (kt : rx = ry → J γ μ f mc ms cells slots h tgt lv st Q X) (kf : ¬ rx = ry → J γ μ f mc ms cells slots h pc' lv st Q X) : J γ μ f mc ms cells slots h pc lv (va_rf ry :: va_rf rx :: st) Q X := by
  intro p e s m args below meth c C H locs ls hH hz hlo hl
  subst hp; exact lv_acmp_eq C.hx C.hb (C.dec hc) ht (fun q => kt q p e s m args below meth c C H locs ls hH hz hlo hl) (fun q => kf q p e s m args below meth c C H locs ls hH hz hlo hl)
theorem J.acmp_ne {rx ry : Option Nat} {off : Int} {tgt pc' : Nat} (hc : μ.cm pc = some (.if_acmp .ne off, 3)) (ht : (pc : Int) + off = (tgt : Int)) (hp : pc + 3 = pc') (kt : ¬ rx = ry → J γ μ f mc ms cells slots h tgt lv st Q X) (kf : rx = ry → J γ μ f mc ms cells slots h pc' lv st Q X) : J γ μ f mc ms cells slots h pc lv (va_rf ry :: va_rf rx :: st) Q X := by
  intro p e s m args below meth c C H locs ls hH hz hlo hl
  subst hp; exact lv_acmp_ne C.hx C.hb (C.dec hc) ht (fun q => kt q p e s m args below meth c C H locs ls hH hz hlo hl) (fun q => kf q p e s m args below meth c C H locs ls hH hz hlo hl)
theorem J.locs {lv' : List (Nat × Value)} (hs : ∀ q ∈ lv', jGet lv q.1 = some q.2) (kk : J γ μ f mc ms cells slots h pc lv' st Q X) : J γ μ f mc ms cells slots h pc lv st Q X := by
  intro p e s m args below meth c C H locs ls hH hz hlo hl
  exact kk p e s m args below meth c C H locs ls hH hz hlo (jSub_has hl hs)
theorem J.widen {cells' slots' : Nat} (h1 : cells ≤ cells') (h2 : slots ≤ slots') (kk : J γ μ f mc ms cells' slots' h pc lv st Q X) : J γ μ f mc ms cells slots h pc lv st Q X := by
  intro p e s m args below meth c C H locs ls hH hz hlo hl
  exact W.widen h1 h2 (kk p e s m args below meth c C H locs ls hH hz hlo hl)
theorem J.tableOut {dflt lo hi : Int} {offs : Array Int} {len : Nat} {x : Int} {tgt : Nat} (hc : μ.cm pc = some (.tableswitch dflt lo hi offs, len)) (hx : r32 x) (hh : x < lo ∨ hi < x) (ht : (pc : Int) + dflt = (tgt : Int)) (kk : J γ μ f mc ms cells slots h tgt lv st Q X) : J γ μ f mc ms cells slots h pc lv (.int (jI x) :: st) Q X := by
  intro p e s m args below meth c C H locs ls hH hz hlo hl
  exact lv_tableOut C.hx C.hb (C.dec hc) (by rw [jI_toInt hx]; exact hh) ht (kk p e s m args below meth c C H locs ls hH hz hlo hl)
theorem J.tableIn {dflt lo hi : Int} {offs : Array Int} {len : Nat} {x off : Int} {tgt : Nat} (hc : μ.cm pc = some (.tableswitch dflt lo hi offs, len)) (hx : r32 x) (h1 : ¬ x < lo) (h2 : ¬ hi < x) (ho : offs[(x - lo).toNat]? = some off) (ht : (pc : Int) + off = (tgt : Int)) (kk : J γ μ f mc ms cells slots h tgt lv st Q X) : J γ μ f mc ms cells slots h pc lv (.int (jI x) :: st) Q X := by
  intro p e s m args below meth c C H locs ls hH hz hlo hl
  exact lv_tableIn C.hx C.hb (C.dec hc) (by rw [jI_toInt hx]; exact h1) (by rw [jI_toInt hx]; exact h2) (by rw [jI_toInt hx]; exact ho) ht (kk p e s m args below meth c C H locs ls hH hz hlo hl)
theorem J.iret {z : Int} (hc : μ.cm pc = some (.ireturn, 1)) (hr : μ.ret = some .int) (hm : cells ≤ mc) (hs : slots ≤ ms) (hq : Q (some (.int (jI z))) h) : J γ μ f mc ms cells slots h pc lv [.int (jI z)] Q X := by
  intro p e s m args below meth c C H locs ls hH hz hlo hl
  have hlocks := C.locks
  refine W.widen hm hs (vx_ret ?_)
  exact W.iret C.hx C.hb (C.hr.trans hr) (fun t ht hW => ⟨_, h, rfl, hq, by rw [ht]; exact hH⟩) hlo (C.dec hc)
theorem J.lret {z : Int} (hc : μ.cm pc = some (.lreturn, 1)) (hr : μ.ret = some .long) (hm : cells ≤ mc) (hs : slots ≤ ms) (hq : Q (some (.long (jL z))) h) : J γ μ f mc ms cells slots h pc lv [.long (jL z)] Q X := by
  intro p e s m args below meth c C H locs ls hH hz hlo hl
  have hlocks := C.locks
  refine W.widen hm hs (vx_ret ?_)
  exact W.lret C.hx C.hb (C.hr.trans hr) (fun t ht hW => ⟨_, h, rfl, hq, by rw [ht]; exact hH⟩) hlo (C.dec hc)
theorem J.zret {z : Int} {ty : FieldType} (hc : μ.cm pc = some (.ireturn, 1)) (hr : μ.ret = some ty) (hn : narrow ty (.int (jI z)) = .int (jI z)) (hm : cells ≤ mc) (hs : slots ≤ ms) (hq : Q (some (.int (jI z))) h) : J γ μ f mc ms cells slots h pc lv [.int (jI z)] Q X := by
  intro p e s m args below meth c C H locs ls hH hz hlo hl
  have hlocks := C.locks
  refine W.widen hm hs (vx_ret ?_)
  exact W.zret C.hx C.hb (C.hr.trans hr) hn (fun t ht hW => ⟨_, h, rfl, hq, by rw [ht]; exact hH⟩) hlo (C.dec hc)
theorem J.vret (hc : μ.cm pc = some (.return_, 1)) (hr : μ.ret = none) (hm : cells ≤ mc) (hs : slots ≤ ms) (hq : Q none h) : J γ μ f mc ms cells slots h pc lv [] Q X := by
  intro p e s m args below meth c C H locs ls hH hz hlo hl
  have hlocks := C.locks
  refine W.widen hm hs (vx_ret ?_)
  exact W.vret C.hx C.hb (C.hr.trans hr) (fun t ht hW => ⟨_, h, rfl, hq, by rw [ht]; exact hH⟩) hlo (C.dec hc)
theorem J.aret {a : Nat} {rt : FieldType} (hc : μ.cm pc = some (.areturn, 1)) (hr : μ.ret = some rt) (hk : jKr rt = true) (hm : cells ≤ mc) (hs : slots ≤ ms) (hq : Q (some (.ref a)) h) : J γ μ f mc ms cells slots h pc lv [.ref a] Q X := by
  intro p e s m args below meth c C H locs ls hH hz hlo hl
  have hlocks := C.locks
  refine W.widen hm hs (vx_ret ?_)
  exact W.aret C.hx C.hb (C.hr.trans hr) (by cases rt <;> first | exact Or.inl ⟨_, rfl⟩ | exact Or.inr ⟨_, rfl⟩ | (simp [jKr] at hk)) (Or.inr ⟨_, rfl⟩) (fun t ht hW => ⟨_, h, rfl, hq, by rw [ht]; exact hH⟩) hlo (C.dec hc)
theorem J.aretN {rt : FieldType} (hc : μ.cm pc = some (.areturn, 1)) (hr : μ.ret = some rt) (hk : jKr rt = true) (hm : cells ≤ mc) (hs : slots ≤ ms) (hq : Q (some .null) h) : J γ μ f mc ms cells slots h pc lv [.null] Q X := by
  intro p e s m args below meth c C H locs ls hH hz hlo hl
  have hlocks := C.locks
  refine W.widen hm hs (vx_ret ?_)
  exact W.aret C.hx C.hb (C.hr.trans hr) (by cases rt <;> first | exact Or.inl ⟨_, rfl⟩ | exact Or.inr ⟨_, rfl⟩ | (simp [jKr] at hk)) (Or.inl rfl) (fun t ht hW => ⟨_, h, rfl, hq, by rw [ht]; exact hH⟩) hlo (C.dec hc)
end JR
