/-! making cells, copying rows, calling -/
theorem kd_len (a : Nat) (h : (kd a).1 < 7) : (kd a).2 = NN (kd a).1 := by
  by_cases ha : a < 200
  · have hall : (List.range 200).all (fun a => decide ((kd a).1 < 7 → (kd a).2 = NN (kd a).1)) = true := by decide +kernel
    exact of_decide_eq_true (List.all_eq_true.mp hall a (List.mem_range.mpr ha)) h
  · have e : kd a = (1, 12) := by
      unfold kd
      rw [List.getD_eq_getElem?_getD, List.getElem?_eq_none (show kdT.length ≤ a from (by show 103 ≤ a; omega))]
      rfl
    rw [e]
    rfl
theorem ad_top {G : GG} {σ : Sto} {H : Heap} (hS : Sim G σ H) : H.size = ad G (sn σ) := by
  have h1 := hS.1
  have h2 := hS.2.1
  cases hn : sn σ with
  | zero => omega
  | succ n => show _ = gB G + n; omega
theorem gi_alo (σ : Sto) (j : Nat) : gi (alo σ) (sn σ) j = 0 := by show upr σ.2.1 σ.1 _ σ.1 j = _; unfold upr; rw [if_pos rfl]
theorem gl_alo (σ : Sto) (j : Nat) : gl (alo σ) (sn σ) j = 0 := by show upr σ.2.2.1 σ.1 _ σ.1 j = _; unfold upr; rw [if_pos rfl]
theorem gr_alo (σ : Sto) (j : Nat) : gr (alo σ) (sn σ) j = none := by show upr σ.2.2.2 σ.1 _ σ.1 j = _; unfold upr; rw [if_pos rfl]
theorem fvl_alo {G : GG} {σ : Sto} {t : FieldType} {j : Nat} (h : t = .int ∨ t = .boolean ∨ t = .long ∨ (∃ n, t = .object n) ∨ ∃ u, t = .array u) : defaultValue t = fvl G (alo σ) t (sn σ) j := by
  unfold fvl
  rw [gi_alo, gl_alo, gr_alo]
  rcases h with rfl | rfl | rfl | ⟨n, rfl⟩ | ⟨n, rfl⟩ <;> rfl
theorem va_S.grow {A : Nat → Prop} {H0 H H' : Heap} {locs : List Loc} (h : va_S A H0 H locs) (hz : H.size ≤ H'.size) (ho : ∀ q, q < H.size → H'[q]? = H[q]?) : va_S A H0 H' locs :=
  ⟨Nat.le_trans h.1 hz, fun q h1 h2 => (ho q (Nat.lt_of_lt_of_le h1 h.1)).trans (h.2.1 q h1 h2), h.2.2⟩
section
variable {G : GG} {b : B3} {k pc : Nat} {lc st r : List AV} {σ : Sto} {Q : Po}
theorem so_new {x ci : Nat} (hd : decode (mB k) pc = .ok (.new x, 3)) (hk : lok k x = true) (hq : alook clkT (mC k * 1000 + x) = some ci) (h1 : 1 ≤ b.2.1) (h2 : (kd (sn σ)).2 ≤ b.2.2) (h3 : (kd (sn σ)).1 = ci)
    (h : WPs G (b.1, b.2.1 - 1, b.2.2 - (kd (sn σ)).2) k (pc + 3) lc (aR (some (sn σ)) :: st) (alo σ) Q) : WPs G b k pc lc st σ Q := fun p e R s m args below meth c QQ C H locs cells slots ls hS hF hl hc hs => by
  obtain ⟨c1, c2⟩ := ckAll _ (alook_mem _ _ _ hq)
  obtain ⟨e1, e2, -⟩ := lok_d hk
  dsimp only at c1 c2
  rw [e1, e2] at c2
  obtain ⟨d1, d2, d3, d4, d5, d6, d7⟩ := clAll ci c1
  have hts := C.2.2.2.2.1
  have hKn := C.2.2.2.2.2.1.1.1 ci _ d1
  have e3 : (kd (sn σ)).2 = NN ci := by rw [kd_len _ (by rw [h3]; exact c1), h3]
  rw [e3] at h2 h
  refine W.newcK C.1 C.2.1 C.2.2.2.1 (hts _ c2) (hts _ d5) (hts _ d6) rfl hd (by omega) (by omega) hKn.2.1 (ad_top hS) fun H' kC hkC z1 z2 z3 => ?_
  have z3' : ∀ q, q < H.size → H'[q]? = H[q]? := fun q hq => z3 q (by rw [← ad_top hS]; exact hq)
  have z2' : H'.size = H.size + 1 := by rw [z2, ad_top hS]
  refine h p e R s m args below meth c QQ C H' locs (cells + 1) (slots + NN ci) ls (hS.new z2' z3' (celK.ofObj h3 c1 ?_)) (hF.grow (by omega) z3') hl (by dsimp only; omega) (by dsimp only; omega)
  exact (u_born (YY ci) hts d2 hKn hkC z1 d4).to (fun j hj => fvl_alo (d7 j hj))
theorem avl_alo {G : GG} {σ : Sto} {t : Nat} (h : t = 7 ∨ t = 8 ∨ t = 9) (ty : FieldType) (hty : (t = 7 → ty = .int) ∧ (t = 8 → ty = .long) ∧ (t = 9 → ty = .boolean)) : (fun _ : Nat => defaultValue ty) = avl G (alo σ) t (sn σ) := by
  funext j
  unfold avl
  rw [gi_alo, gl_alo, gr_alo]
  rcases h with rfl | rfl | rfl
  · rw [hty.1 rfl]; rfl
  · rw [hty.2.1 rfl]; rfl
  · rw [hty.2.2 rfl]; rfl
theorem so_newa {t t0 : Nat} {n : Int32} {at_ : ArrayType} (hd : decode (mB k) pc = .ok (.newarray at_, 2)) (ht : t = 7 ∧ t0 = 0 ∧ at_ = .int ∨ t = 8 ∧ t0 = 1 ∧ at_ = .long ∨ t = 9 ∧ t0 = 2 ∧ at_ = .boolean)
    (h1 : 1 ≤ b.2.1) (h2 : (kd (sn σ)).2 ≤ b.2.2) (h3 : (kd (sn σ)).1 = t) (h4 : ¬ n < 0) (h5 : n.toNatClampNeg = (kd (sn σ)).2) (h6 : n.toNatClampNeg ≤ 10000)
    (h : WPs G (b.1, b.2.1 - 1, b.2.2 - (kd (sn σ)).2) k (pc + 2) lc (aR (some (sn σ)) :: r) (alo σ) Q) : WPs G b k pc lc (aI n :: r) σ Q := fun p e R s m args below meth c QQ C H locs cells slots ls hS hF hl hc hs => by
  have hts := C.2.2.2.2.1
  have hK := C.2.2.2.2.2.1.1.2
  have h6' : (kd (sn σ)).2 ≤ 10000 := by rw [← h5]; exact h6
  rcases ht with ⟨rfl, rfl, rfl⟩ | ⟨rfl, rfl, rfl⟩ | ⟨rfl, rfl, rfl⟩
  · refine va_newaK C.1 C.2.1 (atype := .int) (hts _ w_aI) rfl hd rfl h4 h5 (by show _ * 4 ≤ _; omega) (by omega) (by omega) (ad_top hS) fun H' cA z1 z2 z3 z4 z5 => ?_
    have z3' : ∀ q, q < H.size → H'[q]? = H[q]? := fun q hq => z3 q (by rw [← ad_top hS]; exact hq)
    have z2' : H'.size = H.size + 1 := by rw [z2, ad_top hS]
    have eA : cA = gC G 7 := Option.some.inj (z5.symm.trans (hK 0 _ rfl).2)
    subst eA
    refine h p e R s m args below meth c QQ C H' locs (cells + 1) (slots + (kd (sn σ)).2) ls (hS.new z2' z3' (celK.ofArr h3 (by omega) ?_)) (hF.grow (by omega) z3') hl (by dsimp only; omega) (by dsimp only; omega)
    rw [z1, ← avl_alo (t := 7) (Or.inl rfl) .int ⟨fun _ => rfl, fun q => by omega, fun q => by omega⟩]
    rfl
  · refine va_newaK C.1 C.2.1 (atype := .long) (hts _ w_aJ) rfl hd rfl h4 h5 (by show _ * 8 ≤ _; omega) (by omega) (by omega) (ad_top hS) fun H' cA z1 z2 z3 z4 z5 => ?_
    have z3' : ∀ q, q < H.size → H'[q]? = H[q]? := fun q hq => z3 q (by rw [← ad_top hS]; exact hq)
    have z2' : H'.size = H.size + 1 := by rw [z2, ad_top hS]
    have eA : cA = gC G 8 := Option.some.inj (z5.symm.trans (hK 1 _ rfl).2)
    subst eA
    refine h p e R s m args below meth c QQ C H' locs (cells + 1) (slots + (kd (sn σ)).2) ls (hS.new z2' z3' (celK.ofArr h3 (by omega) ?_)) (hF.grow (by omega) z3') hl (by dsimp only; omega) (by dsimp only; omega)
    rw [z1, ← avl_alo (t := 8) (Or.inr (Or.inl rfl)) .long ⟨fun q => by omega, fun _ => rfl, fun q => by omega⟩]
    rfl
  · refine va_newaK C.1 C.2.1 (atype := .boolean) (hts _ w_aZ) rfl hd rfl h4 h5 (by show _ * 1 ≤ _; omega) (by omega) (by omega) (ad_top hS) fun H' cA z1 z2 z3 z4 z5 => ?_
    have z3' : ∀ q, q < H.size → H'[q]? = H[q]? := fun q hq => z3 q (by rw [← ad_top hS]; exact hq)
    have z2' : H'.size = H.size + 1 := by rw [z2, ad_top hS]
    have eA : cA = gC G 9 := Option.some.inj (z5.symm.trans (hK 2 _ rfl).2)
    subst eA
    refine h p e R s m args below meth c QQ C H' locs (cells + 1) (slots + (kd (sn σ)).2) ls (hS.new z2' z3' (celK.ofArr h3 (by omega) ?_)) (hF.grow (by omega) z3') hl (by dsimp only; omega) (by dsimp only; omega)
    rw [z1, ← avl_alo (t := 9) (Or.inr (Or.inr rfl)) .boolean ⟨fun q => by omega, fun q => by omega, fun _ => rfl⟩]
    rfl
theorem so_anew {x : Nat} {n : Int32} (hd : decode (mB k) pc = .ok (.anewarray x, 3)) (hk : lok k x = true) (hq : alook clkT (mC k * 1000 + x) = some 3)
    (h1 : 1 ≤ b.2.1) (h2 : (kd (sn σ)).2 ≤ b.2.2) (h3 : (kd (sn σ)).1 = 10) (h4 : ¬ n < 0) (h5 : n.toNatClampNeg = (kd (sn σ)).2) (h6 : n.toNatClampNeg ≤ 10000)
    (h : WPs G (b.1, b.2.1 - 1, b.2.2 - (kd (sn σ)).2) k (pc + 3) lc (aR (some (sn σ)) :: r) (alo σ) Q) : WPs G b k pc lc (aI n :: r) σ Q := fun p e R s m args below meth c QQ C H locs cells slots ls hS hF hl hc hs => by
  obtain ⟨c1, c2⟩ := ckAll _ (alook_mem _ _ _ hq)
  obtain ⟨e1, e2, -⟩ := lok_d hk
  dsimp only at c1 c2
  rw [e1, e2] at c2
  have hts := C.2.2.2.2.1
  have hK := C.2.2.2.2.2.1.1.2
  refine W.anew C.1 C.2.1 C.2.2.2.1 (hts _ c2) (va_AO.use C.2.2.2.2.2.1.2.2.1) rfl hd rfl h4 (by omega) (by omega) (by omega) fun cA kA comp f1 f2 f3 f4 => ?_
  obtain ⟨kA', comp', g1, g2, g3, g4⟩ := (hK 3 _ rfl).2
  have eA : cA = gC G 10 := Option.some.inj (f1.symm.trans g4)
  subst eA
  rw [ad_top hS]
  rw [h5]
  have z3' : ∀ q, q < H.size → (H.push { cls := gC G 10, slots := Array.replicate (kd (sn σ)).2 .null, vm := .none })[q]? = H[q]? := fun q hq => by rw [Array.getElem?_push, if_neg (Nat.ne_of_lt hq)]
  refine h p e R s m args below meth c QQ C _ locs (cells + 1) (slots + (kd (sn σ)).2) ls (hS.new (by simp) z3' (celK.ofArr h3 (by omega) ?_)) (hF.grow (by simp) z3') hl (by dsimp only; omega) (by dsimp only; omega)
  rw [← ad_top hS, arrV_new]
  simp
  congr 1
  funext j
  unfold avl
  rw [gr_alo]
  rfl
end
