/-! each instruction of the abstract machine is one of the machine: the plain ones -/
theorem aI_ne (x : Int32) : aI x ≠ aU := fun h => by cases h
theorem aL_ne (x : Int64) : aL x ≠ aU := fun h => by cases h
theorem aR_ne (x : Option Nat) : aR x ≠ aU := fun h => by cases h
theorem jmp_d {pc : Nat} {off : Int} {K : Nat → Prop} (h : jmp pc off K) : ∃ t : Nat, (pc : Int) + off = (t : Int) ∧ K t := by
  unfold jmp at h
  split at h
  · rename_i t ht
    exact ⟨t, ht, h⟩
  · exact h.elim
theorem ldi_d {lc : List AV} {i : Nat} {K : Int32 → Prop} (h : ldi lc i K) : ∃ x, lc[i]? = some (aI x) ∧ K x := by
  unfold ldi at h
  split at h
  · rename_i x hx
    exact ⟨x, hx, h⟩
  · exact h.elim
theorem ldl_d {lc : List AV} {i : Nat} {K : Int64 → Prop} (h : ldl lc i K) : ∃ x, lc[i]? = some (aL x) ∧ K x := by
  unfold ldl at h
  split at h
  · rename_i x hx
    exact ⟨x, hx, h⟩
  · exact h.elim
theorem lda_d {lc : List AV} {i : Nat} {K : Option Nat → Prop} (h : lda lc i K) : ∃ x, lc[i]? = some (aR x) ∧ K x := by
  unfold lda at h
  split at h
  · rename_i x hx
    exact ⟨x, hx, h⟩
  · exact h.elim
theorem p1i_d {st : List AV} {K : Int32 → List AV → Prop} (h : p1i st K) : ∃ x r, st = aI x :: r ∧ K x r := by
  unfold p1i at h
  split at h
  · exact ⟨_, _, rfl, h⟩
  · exact h.elim
theorem p1l_d {st : List AV} {K : Int64 → List AV → Prop} (h : p1l st K) : ∃ x r, st = aL x :: r ∧ K x r := by
  unfold p1l at h
  split at h
  · exact ⟨_, _, rfl, h⟩
  · exact h.elim
theorem p1r_d {st : List AV} {K : Option Nat → List AV → Prop} (h : p1r st K) : ∃ x r, st = aR x :: r ∧ K x r := by
  unfold p1r at h
  split at h
  · exact ⟨_, _, rfl, h⟩
  · exact h.elim
theorem p1o_d {st : List AV} {K : Nat → List AV → Prop} (h : p1o st K) : ∃ x r, st = aR (some x) :: r ∧ K x r := by
  unfold p1o at h
  split at h
  · exact ⟨_, _, rfl, h⟩
  · exact h.elim
section
variable {G : GG} {b : B3} {k pc : Nat} {lc st r : List AV} {σ : Sto} {Q : Po}
theorem so_iconst {n : Int} (hd : decode (mB k) pc = .ok (.iconst n, 1))  (h : WPs G b k (pc + 1) lc (aI (Int32.ofInt n) :: st) σ Q) : WPs G b k pc lc (st) σ Q := fun p e R s m args below meth c QQ C H locs cells slots ls hS hF hl hc hs => lv_iconst C.1 C.2.1 hd rfl (h p e R s m args below meth c QQ C H locs cells slots ls hS hF hl hc hs)
theorem so_bipush {n : Int} (hd : decode (mB k) pc = .ok (.bipush n, 2))  (h : WPs G b k (pc + 2) lc (aI (Int8.ofInt n).toInt32 :: st) σ Q) : WPs G b k pc lc (st) σ Q := fun p e R s m args below meth c QQ C H locs cells slots ls hS hF hl hc hs => lv_bipush C.1 C.2.1 hd rfl (h p e R s m args below meth c QQ C H locs cells slots ls hS hF hl hc hs)
theorem so_sipush {n : Int} (hd : decode (mB k) pc = .ok (.sipush n, 3))  (h : WPs G b k (pc + 3) lc (aI (Int16.ofInt n).toInt32 :: st) σ Q) : WPs G b k pc lc (st) σ Q := fun p e R s m args below meth c QQ C H locs cells slots ls hS hF hl hc hs => lv_sipush C.1 C.2.1 hd rfl (h p e R s m args below meth c QQ C H locs cells slots ls hS hF hl hc hs)
theorem so_lconst {n : Fin 2} (hd : decode (mB k) pc = .ok (.lconst n, 1))  (h : WPs G b k (pc + 1) lc (aL (Int64.ofNat n.val) :: st) σ Q) : WPs G b k pc lc (st) σ Q := fun p e R s m args below meth c QQ C H locs cells slots ls hS hF hl hc hs => lv_lconst C.1 C.2.1 hd rfl (h p e R s m args below meth c QQ C H locs cells slots ls hS hF hl hc hs)
theorem so_null  (hd : decode (mB k) pc = .ok (.aconst_null, 1))  (h : WPs G b k (pc + 1) lc (aR none :: st) σ Q) : WPs G b k pc lc (st) σ Q := fun p e R s m args below meth c QQ C H locs cells slots ls hS hF hl hc hs => lv_null C.1 C.2.1 hd  (h p e R s m args below meth c QQ C H locs cells slots ls hS hF hl hc hs)
theorem so_iload {i : Nat} {x : Int32} (hd : decode (mB k) pc = .ok (.iload i, 2)) (hx : lc[i]? = some (aI x)) (h : WPs G b k (pc + 2) lc (aI x :: st) σ Q) : WPs G b k pc lc (st) σ Q := fun p e R s m args below meth c QQ C H locs cells slots ls hS hF hl hc hs => lv_iload C.1 C.2.1 hd (hl.2.2 i _ hx (aI_ne x)) (h p e R s m args below meth c QQ C H locs cells slots ls hS hF hl hc hs)
theorem so_iload_n {i : Fin 4} {x : Int32} (hd : decode (mB k) pc = .ok (.iload_n i, 1)) (hx : lc[i.val]? = some (aI x)) (h : WPs G b k (pc + 1) lc (aI x :: st) σ Q) : WPs G b k pc lc (st) σ Q := fun p e R s m args below meth c QQ C H locs cells slots ls hS hF hl hc hs => lv_iload_n C.1 C.2.1 hd rfl (hl.2.2 _ _ hx (aI_ne x)) (h p e R s m args below meth c QQ C H locs cells slots ls hS hF hl hc hs)
theorem so_lload {i : Nat} {x : Int64} (hd : decode (mB k) pc = .ok (.lload i, 2)) (hx : lc[i]? = some (aL x)) (h : WPs G b k (pc + 2) lc (aL x :: st) σ Q) : WPs G b k pc lc (st) σ Q := fun p e R s m args below meth c QQ C H locs cells slots ls hS hF hl hc hs => lv_lload C.1 C.2.1 hd (hl.2.2 i _ hx (aL_ne x)) (h p e R s m args below meth c QQ C H locs cells slots ls hS hF hl hc hs)
theorem so_lload_n {i : Fin 4} {x : Int64} (hd : decode (mB k) pc = .ok (.lload_n i, 1)) (hx : lc[i.val]? = some (aL x)) (h : WPs G b k (pc + 1) lc (aL x :: st) σ Q) : WPs G b k pc lc (st) σ Q := fun p e R s m args below meth c QQ C H locs cells slots ls hS hF hl hc hs => lv_lload_n C.1 C.2.1 hd rfl (hl.2.2 _ _ hx (aL_ne x)) (h p e R s m args below meth c QQ C H locs cells slots ls hS hF hl hc hs)
theorem so_aload {i : Nat} {x : Option Nat} (hd : decode (mB k) pc = .ok (.aload i, 2)) (hx : lc[i]? = some (aR x)) (h : WPs G b k (pc + 2) lc (aR x :: st) σ Q) : WPs G b k pc lc st σ Q := fun p e R s m args below meth c QQ C H locs cells slots ls hS hF hl hc hs => by
  have h1 := hl.2.2 _ _ hx (aR_ne x)
  have h2 := h p e R s m args below meth c QQ C H locs cells slots ls hS hF hl hc hs
  cases x with
  | none => exact lv_aloadN C.1 C.2.1 hd h1 h2
  | some x => exact lv_aload C.1 C.2.1 hd h1 h2
theorem so_aload_n {i : Fin 4} {x : Option Nat} (hd : decode (mB k) pc = .ok (.aload_n i, 1)) (hx : lc[i.val]? = some (aR x)) (h : WPs G b k (pc + 1) lc (aR x :: st) σ Q) : WPs G b k pc lc st σ Q := fun p e R s m args below meth c QQ C H locs cells slots ls hS hF hl hc hs => by
  have h1 := hl.2.2 _ _ hx (aR_ne x)
  have h2 := h p e R s m args below meth c QQ C H locs cells slots ls hS hF hl hc hs
  cases x with
  | none => exact lv_aload_nN C.1 C.2.1 hd rfl h1 h2
  | some x => exact lv_aload_n C.1 C.2.1 hd rfl h1 h2
theorem so_istore {i : Nat} {x : Int32} (hd : decode (mB k) pc = .ok (.istore i, 2)) (hi : i < mX k) (h : WPs G b k (pc + 2) (ls1 lc i (aI x)) r σ Q) : WPs G b k pc lc (aI x :: r) σ Q := fun p e R s m args below meth c QQ C H locs cells slots ls hS hF hl hc hs => lv_istore C.1 C.2.1 hd hl.has hi rfl (fun ls2 h9 => h p e R s m args below meth c QQ C H locs cells slots ls2 hS hF (lvo_st1 (v := aI x) h9) hc hs)
theorem so_istore_n {i : Fin 4} {x : Int32} (hd : decode (mB k) pc = .ok (.istore_n i, 1)) (hi : i.val < mX k) (h : WPs G b k (pc + 1) (ls1 lc i.val (aI x)) r σ Q) : WPs G b k pc lc (aI x :: r) σ Q := fun p e R s m args below meth c QQ C H locs cells slots ls hS hF hl hc hs => lv_istore_n C.1 C.2.1 hd rfl hl.has hi rfl (fun ls2 h9 => h p e R s m args below meth c QQ C H locs cells slots ls2 hS hF (lvo_st1 (v := aI x) h9) hc hs)
theorem so_lstore {i : Nat} {x : Int64} (hd : decode (mB k) pc = .ok (.lstore i, 2)) (hi : i + 1 < mX k) (h : WPs G b k (pc + 2) (ls2 lc i (aL x)) r σ Q) : WPs G b k pc lc (aL x :: r) σ Q := fun p e R s m args below meth c QQ C H locs cells slots ls hS hF hl hc hs => lv_lstore C.1 C.2.1 hd hl.has hi rfl (fun ls2 h9 => h p e R s m args below meth c QQ C H locs cells slots ls2 hS hF (lvo_st2 (v := aL x) h9) hc hs)
theorem so_lstore_n {i : Fin 4} {x : Int64} (hd : decode (mB k) pc = .ok (.lstore_n i, 1)) (hi : i.val + 1 < mX k) (h : WPs G b k (pc + 1) (ls2 lc i.val (aL x)) r σ Q) : WPs G b k pc lc (aL x :: r) σ Q := fun p e R s m args below meth c QQ C H locs cells slots ls hS hF hl hc hs => lv_lstore_n C.1 C.2.1 hd rfl hl.has hi rfl (fun ls2 h9 => h p e R s m args below meth c QQ C H locs cells slots ls2 hS hF (lvo_st2 (v := aL x) h9) hc hs)
theorem so_astore {i : Nat} {x : Option Nat} (hd : decode (mB k) pc = .ok (.astore i, 2)) (hi : i < mX k) (h : WPs G b k (pc + 2) (ls1 lc i (aR x)) r σ Q) : WPs G b k pc lc (aR x :: r) σ Q := fun p e R s m args below meth c QQ C H locs cells slots ls hS hF hl hc hs => by
  cases x with
  | none => exact lv_astoreN C.1 C.2.1 hd hl.has hi rfl (fun ls2 h9 => h p e R s m args below meth c QQ C H locs cells slots ls2 hS hF (lvo_st1 (v := aR none) h9) hc hs)
  | some x => exact lv_astore C.1 C.2.1 hd hl.has hi rfl (fun ls2 h9 => h p e R s m args below meth c QQ C H locs cells slots ls2 hS hF (lvo_st1 (v := aR (some x)) h9) hc hs)
theorem so_astore_n {i : Fin 4} {x : Option Nat} (hd : decode (mB k) pc = .ok (.astore_n i, 1)) (hi : i.val < mX k) (h : WPs G b k (pc + 1) (ls1 lc i.val (aR x)) r σ Q) : WPs G b k pc lc (aR x :: r) σ Q := fun p e R s m args below meth c QQ C H locs cells slots ls hS hF hl hc hs => by
  cases x with
  | none => exact lv_astore_nN C.1 C.2.1 hd rfl hl.has hi rfl (fun ls2 h9 => h p e R s m args below meth c QQ C H locs cells slots ls2 hS hF (lvo_st1 (v := aR none) h9) hc hs)
  | some x => exact lv_astore_n C.1 C.2.1 hd rfl hl.has hi rfl (fun ls2 h9 => h p e R s m args below meth c QQ C H locs cells slots ls2 hS hF (lvo_st1 (v := aR (some x)) h9) hc hs)
theorem so_iinc {i : Nat} {n : Int} {x : Int32} (hd : decode (mB k) pc = .ok (.iinc i n, 3)) (hi : i < mX k) (hx : lc[i]? = some (aI x)) (h : WPs G b k (pc + 3) (ls1 lc i (aI (x + Int32.ofInt n))) st σ Q) : WPs G b k pc lc st σ Q := fun p e R s m args below meth c QQ C H locs cells slots ls hS hF hl hc hs => by
  obtain ⟨z, hz⟩ := List.getElem?_of_mem (lcl_mem (G := G) hx (aI_ne x))
  exact lv_iinc C.1 C.2.1 hd hl.has (x := x) hz rfl hi rfl (fun ls2 h9 => h p e R s m args below meth c QQ C H locs cells slots ls2 hS hF (lvo_st1 (v := aI (x + Int32.ofInt n)) h9) hc hs)
theorem so_iadd {x y : Int32} (hd : decode (mB k) pc = .ok (.iadd, 1))  (h : WPs G b k (pc + 1) lc (aI (x + y) :: r) σ Q) : WPs G b k pc lc (aI y :: aI x :: r) σ Q := fun p e R s m args below meth c QQ C H locs cells slots ls hS hF hl hc hs => lv_iadd C.1 C.2.1 hd  (h p e R s m args below meth c QQ C H locs cells slots ls hS hF hl hc hs)
theorem so_isub {x y : Int32} (hd : decode (mB k) pc = .ok (.isub, 1))  (h : WPs G b k (pc + 1) lc (aI (x - y) :: r) σ Q) : WPs G b k pc lc (aI y :: aI x :: r) σ Q := fun p e R s m args below meth c QQ C H locs cells slots ls hS hF hl hc hs => lv_isub C.1 C.2.1 hd  (h p e R s m args below meth c QQ C H locs cells slots ls hS hF hl hc hs)
theorem so_imul {x y : Int32} (hd : decode (mB k) pc = .ok (.imul, 1))  (h : WPs G b k (pc + 1) lc (aI (x * y) :: r) σ Q) : WPs G b k pc lc (aI y :: aI x :: r) σ Q := fun p e R s m args below meth c QQ C H locs cells slots ls hS hF hl hc hs => lv_imul C.1 C.2.1 hd  (h p e R s m args below meth c QQ C H locs cells slots ls hS hF hl hc hs)
theorem so_iand {x y : Int32} (hd : decode (mB k) pc = .ok (.iand, 1))  (h : WPs G b k (pc + 1) lc (aI (x &&& y) :: r) σ Q) : WPs G b k pc lc (aI y :: aI x :: r) σ Q := fun p e R s m args below meth c QQ C H locs cells slots ls hS hF hl hc hs => lv_iand C.1 C.2.1 hd  (h p e R s m args below meth c QQ C H locs cells slots ls hS hF hl hc hs)
theorem so_ladd {x y : Int64} (hd : decode (mB k) pc = .ok (.ladd, 1))  (h : WPs G b k (pc + 1) lc (aL (x + y) :: r) σ Q) : WPs G b k pc lc (aL y :: aL x :: r) σ Q := fun p e R s m args below meth c QQ C H locs cells slots ls hS hF hl hc hs => lv_ladd C.1 C.2.1 hd  (h p e R s m args below meth c QQ C H locs cells slots ls hS hF hl hc hs)
theorem so_lsub {x y : Int64} (hd : decode (mB k) pc = .ok (.lsub, 1))  (h : WPs G b k (pc + 1) lc (aL (x - y) :: r) σ Q) : WPs G b k pc lc (aL y :: aL x :: r) σ Q := fun p e R s m args below meth c QQ C H locs cells slots ls hS hF hl hc hs => lv_lsub C.1 C.2.1 hd  (h p e R s m args below meth c QQ C H locs cells slots ls hS hF hl hc hs)
theorem so_land {x y : Int64} (hd : decode (mB k) pc = .ok (.land, 1))  (h : WPs G b k (pc + 1) lc (aL (x &&& y) :: r) σ Q) : WPs G b k pc lc (aL y :: aL x :: r) σ Q := fun p e R s m args below meth c QQ C H locs cells slots ls hS hF hl hc hs => lv_land C.1 C.2.1 hd  (h p e R s m args below meth c QQ C H locs cells slots ls hS hF hl hc hs)
theorem so_lor {x y : Int64} (hd : decode (mB k) pc = .ok (.lor, 1))  (h : WPs G b k (pc + 1) lc (aL (x ||| y) :: r) σ Q) : WPs G b k pc lc (aL y :: aL x :: r) σ Q := fun p e R s m args below meth c QQ C H locs cells slots ls hS hF hl hc hs => lv_lor C.1 C.2.1 hd  (h p e R s m args below meth c QQ C H locs cells slots ls hS hF hl hc hs)
theorem so_idiv {x y : Int32} (hd : decode (mB k) pc = .ok (.idiv, 1)) (hy : ¬ y = 0) (h : WPs G b k (pc + 1) lc (aI (x / y) :: r) σ Q) : WPs G b k pc lc (aI y :: aI x :: r) σ Q := fun p e R s m args below meth c QQ C H locs cells slots ls hS hF hl hc hs => lv_idiv C.1 C.2.1 hd hy (h p e R s m args below meth c QQ C H locs cells slots ls hS hF hl hc hs)
theorem so_irem {x y : Int32} (hd : decode (mB k) pc = .ok (.irem, 1)) (hy : ¬ y = 0) (h : WPs G b k (pc + 1) lc (aI (x - x / y * y) :: r) σ Q) : WPs G b k pc lc (aI y :: aI x :: r) σ Q := fun p e R s m args below meth c QQ C H locs cells slots ls hS hF hl hc hs => lv_irem C.1 C.2.1 hd hy (h p e R s m args below meth c QQ C H locs cells slots ls hS hF hl hc hs)
theorem so_ldiv {x y : Int64} (hd : decode (mB k) pc = .ok (.ldiv, 1)) (hy : ¬ y = 0) (h : WPs G b k (pc + 1) lc (aL (x / y) :: r) σ Q) : WPs G b k pc lc (aL y :: aL x :: r) σ Q := fun p e R s m args below meth c QQ C H locs cells slots ls hS hF hl hc hs => lv_ldiv C.1 C.2.1 hd hy (h p e R s m args below meth c QQ C H locs cells slots ls hS hF hl hc hs)
theorem so_lneg {x : Int64} (hd : decode (mB k) pc = .ok (.lneg, 1))  (h : WPs G b k (pc + 1) lc (aL (-x) :: r) σ Q) : WPs G b k pc lc (aL x :: r) σ Q := fun p e R s m args below meth c QQ C H locs cells slots ls hS hF hl hc hs => lv_lneg C.1 C.2.1 hd  (h p e R s m args below meth c QQ C H locs cells slots ls hS hF hl hc hs)
theorem so_lshl {x : Int64} {y : Int32} (hd : decode (mB k) pc = .ok (.lshl, 1))  (h : WPs G b k (pc + 1) lc (aL (x <<< (y.toInt64 &&& 63)) :: r) σ Q) : WPs G b k pc lc (aI y :: aL x :: r) σ Q := fun p e R s m args below meth c QQ C H locs cells slots ls hS hF hl hc hs => lv_lshl C.1 C.2.1 hd rfl (h p e R s m args below meth c QQ C H locs cells slots ls hS hF hl hc hs)
theorem so_lshr {x : Int64} {y : Int32} (hd : decode (mB k) pc = .ok (.lshr, 1))  (h : WPs G b k (pc + 1) lc (aL (x >>> (y.toInt64 &&& 63)) :: r) σ Q) : WPs G b k pc lc (aI y :: aL x :: r) σ Q := fun p e R s m args below meth c QQ C H locs cells slots ls hS hF hl hc hs => lv_lshr C.1 C.2.1 hd rfl (h p e R s m args below meth c QQ C H locs cells slots ls hS hF hl hc hs)
theorem so_i2l {x : Int32} (hd : decode (mB k) pc = .ok (.i2l, 1))  (h : WPs G b k (pc + 1) lc (aL x.toInt64 :: r) σ Q) : WPs G b k pc lc (aI x :: r) σ Q := fun p e R s m args below meth c QQ C H locs cells slots ls hS hF hl hc hs => lv_i2l C.1 C.2.1 hd rfl (h p e R s m args below meth c QQ C H locs cells slots ls hS hF hl hc hs)
theorem so_lcmp {x y : Int64} (hd : decode (mB k) pc = .ok (.lcmp, 1))  (h : WPs G b k (pc + 1) lc (aI (lg_cmp x y) :: r) σ Q) : WPs G b k pc lc (aL y :: aL x :: r) σ Q := fun p e R s m args below meth c QQ C H locs cells slots ls hS hF hl hc hs => W.lcmp C.1 C.2.1 hd  (h p e R s m args below meth c QQ C H locs cells slots ls hS hF hl hc hs)
theorem so_dup {v : AV} (hd : decode (mB k) pc = .ok (.dup, 1)) (hv : cat2 v = 1) (h : WPs G b k (pc + 1) lc (v :: v :: r) σ Q) : WPs G b k pc lc (v :: r) σ Q := fun p e R s m args below meth c QQ C H locs cells slots ls hS hF hl hc hs => lv_dup C.1 C.2.1 hd ((rho_cat G v).trans hv) (h p e R s m args below meth c QQ C H locs cells slots ls hS hF hl hc hs)
theorem so_dup2 {v w : AV} (hd : decode (mB k) pc = .ok (.dup2, 1)) (hv : cat2 v = 1) (hw : cat2 w = 1) (h : WPs G b k (pc + 1) lc (v :: w :: v :: w :: r) σ Q) : WPs G b k pc lc (v :: w :: r) σ Q := fun p e R s m args below meth c QQ C H locs cells slots ls hS hF hl hc hs => lv_dup2_11 C.1 C.2.1 hd ((rho_cat G v).trans hv) ((rho_cat G w).trans hw) (h p e R s m args below meth c QQ C H locs cells slots ls hS hF hl hc hs)
theorem so_goto {off : Int} {t : Nat} (hd : decode (mB k) pc = .ok (.goto off, 3)) (ht : (pc : Int) + off = (t : Int)) (h : WPs G b k t lc st σ Q) : WPs G b k pc lc st σ Q := fun p e R s m args below meth c QQ C H locs cells slots ls hS hF hl hc hs => lv_goto C.1 C.2.1 hd ht (h p e R s m args below meth c QQ C H locs cells slots ls hS hF hl hc hs)
theorem so_if {x : Int32} {cnd : Jvm.ClassFile.Cond} {off : Int} {t : Nat} (hd : decode (mB k) pc = .ok (.ifCond cnd off, 3)) (ht : (pc : Int) + off = (t : Int)) (h1 : ifc cnd x → WPs G b k t lc r σ Q) (h2 : ifn cnd x → WPs G b k (pc + 3) lc r σ Q) : WPs G b k pc lc (aI x :: r) σ Q := fun p e R s m args below meth c QQ C H locs cells slots ls hS hF hl hc hs => by
  cases cnd with
  | eq => exact lv_if_eq C.1 C.2.1 hd ht (fun z => h1 z p e R s m args below meth c QQ C H locs cells slots ls hS hF hl hc hs) (fun z => h2 z p e R s m args below meth c QQ C H locs cells slots ls hS hF hl hc hs)
  | ne => exact lv_if_ne C.1 C.2.1 hd ht (fun z => h1 z p e R s m args below meth c QQ C H locs cells slots ls hS hF hl hc hs) (fun z => h2 z p e R s m args below meth c QQ C H locs cells slots ls hS hF hl hc hs)
  | lt => exact lv_if_lt C.1 C.2.1 hd ht (fun z => h1 z p e R s m args below meth c QQ C H locs cells slots ls hS hF hl hc hs) (fun z => h2 z p e R s m args below meth c QQ C H locs cells slots ls hS hF hl hc hs)
  | ge => exact lv_if_ge C.1 C.2.1 hd ht (fun z => h1 z p e R s m args below meth c QQ C H locs cells slots ls hS hF hl hc hs) (fun z => h2 z p e R s m args below meth c QQ C H locs cells slots ls hS hF hl hc hs)
  | gt => exact lv_if_gt C.1 C.2.1 hd ht (fun z => h1 z p e R s m args below meth c QQ C H locs cells slots ls hS hF hl hc hs) (fun z => h2 z p e R s m args below meth c QQ C H locs cells slots ls hS hF hl hc hs)
  | le => exact lv_if_le C.1 C.2.1 hd ht (fun z => h1 z p e R s m args below meth c QQ C H locs cells slots ls hS hF hl hc hs) (fun z => h2 z p e R s m args below meth c QQ C H locs cells slots ls hS hF hl hc hs)
theorem so_icmp {x y : Int32} {cnd : Jvm.ClassFile.Cond} {off : Int} {t : Nat} (hd : decode (mB k) pc = .ok (.if_icmp cnd off, 3)) (ht : (pc : Int) + off = (t : Int)) (h1 : icc cnd x y → WPs G b k t lc r σ Q) (h2 : icn cnd x y → WPs G b k (pc + 3) lc r σ Q) : WPs G b k pc lc (aI y :: aI x :: r) σ Q := fun p e R s m args below meth c QQ C H locs cells slots ls hS hF hl hc hs => by
  cases cnd with
  | eq => exact lv_icmp_eq C.1 C.2.1 hd ht (fun z => h1 z p e R s m args below meth c QQ C H locs cells slots ls hS hF hl hc hs) (fun z => h2 z p e R s m args below meth c QQ C H locs cells slots ls hS hF hl hc hs)
  | ne => exact lv_icmp_ne C.1 C.2.1 hd ht (fun z => h1 z p e R s m args below meth c QQ C H locs cells slots ls hS hF hl hc hs) (fun z => h2 z p e R s m args below meth c QQ C H locs cells slots ls hS hF hl hc hs)
  | lt => exact lv_icmp_lt C.1 C.2.1 hd ht (fun z => h1 z p e R s m args below meth c QQ C H locs cells slots ls hS hF hl hc hs) (fun z => h2 z p e R s m args below meth c QQ C H locs cells slots ls hS hF hl hc hs)
  | ge => exact lv_icmp_ge C.1 C.2.1 hd ht (fun z => h1 z p e R s m args below meth c QQ C H locs cells slots ls hS hF hl hc hs) (fun z => h2 z p e R s m args below meth c QQ C H locs cells slots ls hS hF hl hc hs)
  | gt => exact lv_icmp_gt C.1 C.2.1 hd ht (fun z => h1 z p e R s m args below meth c QQ C H locs cells slots ls hS hF hl hc hs) (fun z => h2 z p e R s m args below meth c QQ C H locs cells slots ls hS hF hl hc hs)
  | le => exact lv_icmp_le C.1 C.2.1 hd ht (fun z => h1 z p e R s m args below meth c QQ C H locs cells slots ls hS hF hl hc hs) (fun z => h2 z p e R s m args below meth c QQ C H locs cells slots ls hS hF hl hc hs)
theorem omap_inj {G : GG} (hb : gb G < gB G) {x y : Option Nat} : x.map (ad G) = y.map (ad G) ↔ x = y := by
  cases x <;> cases y <;> simp
  exact ⟨fun h => ad_inj hb h, fun h => by rw [h]⟩
theorem so_acmp {x y : Option Nat} {cnd : Jvm.ClassFile.ACond} {off : Int} {t : Nat} (hd : decode (mB k) pc = .ok (.if_acmp cnd off, 3)) (ht : (pc : Int) + off = (t : Int)) (h1 : acc cnd x y → WPs G b k t lc r σ Q) (h2 : acn cnd x y → WPs G b k (pc + 3) lc r σ Q) : WPs G b k pc lc (aR y :: aR x :: r) σ Q := fun p e R s m args below meth c QQ C H locs cells slots ls hS hF hl hc hs => by
  have hb := hS.2.2.1
  cases cnd with
  | eq => exact lv_acmp_eq (rx := x.map (ad G)) (ry := y.map (ad G)) C.1 C.2.1 hd ht (fun z => h1 ((omap_inj hb).mp z) p e R s m args below meth c QQ C H locs cells slots ls hS hF hl hc hs) (fun z => h2 (fun w => z ((omap_inj hb).mpr w)) p e R s m args below meth c QQ C H locs cells slots ls hS hF hl hc hs)
  | ne => exact lv_acmp_ne (rx := x.map (ad G)) (ry := y.map (ad G)) C.1 C.2.1 hd ht (fun z => h1 (fun w => z ((omap_inj hb).mpr w)) p e R s m args below meth c QQ C H locs cells slots ls hS hF hl hc hs) (fun z => h2 ((omap_inj hb).mp z) p e R s m args below meth c QQ C H locs cells slots ls hS hF hl hc hs)
theorem so_ifnull {x : Option Nat} {off : Int} {t : Nat} (hd : decode (mB k) pc = .ok (.ifnull off, 3)) (ht : (pc : Int) + off = (t : Int)) (h1 : x = none → WPs G b k t lc r σ Q) (h2 : ¬ x = none → WPs G b k (pc + 3) lc r σ Q) : WPs G b k pc lc (aR x :: r) σ Q := fun p e R s m args below meth c QQ C H locs cells slots ls hS hF hl hc hs => by
  cases x with
  | none => exact lv_ifnullN C.1 C.2.1 hd ht (h1 rfl p e R s m args below meth c QQ C H locs cells slots ls hS hF hl hc hs)
  | some x => exact lv_ifnull C.1 C.2.1 hd (h2 (fun z => by cases z) p e R s m args below meth c QQ C H locs cells slots ls hS hF hl hc hs)
theorem so_ifnonnull {x : Option Nat} {off : Int} {t : Nat} (hd : decode (mB k) pc = .ok (.ifnonnull off, 3)) (ht : (pc : Int) + off = (t : Int)) (h1 : ¬ x = none → WPs G b k t lc r σ Q) (h2 : x = none → WPs G b k (pc + 3) lc r σ Q) : WPs G b k pc lc (aR x :: r) σ Q := fun p e R s m args below meth c QQ C H locs cells slots ls hS hF hl hc hs => by
  cases x with
  | none => exact lv_ifnonnullN C.1 C.2.1 hd (h2 rfl p e R s m args below meth c QQ C H locs cells slots ls hS hF hl hc hs)
  | some x => exact lv_ifnonnull C.1 C.2.1 hd ht (h1 (fun z => by cases z) p e R s m args below meth c QQ C H locs cells slots ls hS hF hl hc hs)
theorem so_switch {x : Int32} {d lo hi : Int} {offs : Array Int} {len t : Nat} (hd : decode (mB k) pc = .ok (.tableswitch d lo hi offs, len)) (hz : (offs.size : Int) = hi - lo + 1) (ht : (pc : Int) + swt d lo hi offs x = (t : Int)) (h : WPs G b k t lc r σ Q) : WPs G b k pc lc (aI x :: r) σ Q := fun p e R s m args below meth c QQ C H locs cells slots ls hS hF hl hc hs => by
  have h0 := h p e R s m args below meth c QQ C H locs cells slots ls hS hF hl hc hs
  unfold swt at ht
  by_cases hx : x.toInt < lo ∨ hi < x.toInt
  · rw [if_pos hx] at ht
    exact lv_tableOut C.1 C.2.1 hd hx ht h0
  · rw [if_neg hx] at ht
    have hlt : (x.toInt - lo).toNat < offs.size := by omega
    refine lv_tableIn C.1 C.2.1 hd (fun z => hx (Or.inl z)) (fun z => hx (Or.inr z)) (off := offs[(x.toInt - lo).toNat]) (Array.getElem?_eq_getElem hlt) ?_ h0
    rw [← ht, List.getD_eq_getElem?_getD, Array.getElem?_toList, Array.getElem?_eq_getElem hlt]
    rfl
end
