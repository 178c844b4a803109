/-! each instruction of the abstract machine is one of the machine: those of the heap -/
theorem lok_d {k x : Nat} (h : lok k x = true) : cnm ((mC k * 1000 + x) / 1000) = (mY k).cls ∧ (mC k * 1000 + x) % 1000 = x ∧ mC k < 8 := by
  simp only [lok, Bool.and_eq_true] at h
  have h1 : x < 1000 := by have := h.1; exact Nat.blt_eq.mp this
  have h2 : mC k < 8 := by have := h.2; exact Nat.blt_eq.mp this
  refine ⟨?_, by omega, h2⟩
  rw [show (mC k * 1000 + x) / 1000 = mC k by omega]
  exact own_ok k h2
theorem fk0 {t : FieldType} (h : fk t = 0) : t = .int := by cases t <;> first | rfl | (exact absurd h (by simp [fk]))
theorem fk1 {t : FieldType} (h : fk t = 1) : t = .boolean := by cases t <;> first | rfl | (exact absurd h (by simp [fk]))
theorem fk2 {t : FieldType} (h : fk t = 2) : t = .long := by cases t <;> first | rfl | (exact absurd h (by simp [fk]))
theorem celK.obj {G : GG} {σ : Sto} {a c : Nat} {H : Heap} (h : celK G σ a H) (hk : (kd a).1 = c) (hc : c < 7) : t_OB (ad G a) ((gD G).1 c) (NN c) ((gD G).2 c) H (fun j => fvl G σ (YY c j) a j) := by
  subst hk
  unfold celK at h
  rw [if_pos hc] at h
  exact h
theorem celK.arr {G : GG} {σ : Sto} {a t : Nat} {H : Heap} (h : celK G σ a H) (hk : (kd a).1 = t) (hc : ¬ t < 7) : H[ad G a]? = some (arrV (gC G t) (kd a).2 (avl G σ t a)) := by
  subst hk
  unfold celK at h
  rw [if_neg hc] at h
  exact h
theorem celK.ofObj {G : GG} {σ : Sto} {a c : Nat} {H : Heap} (hk : (kd a).1 = c) (hc : c < 7) (h : t_OB (ad G a) ((gD G).1 c) (NN c) ((gD G).2 c) H (fun j => fvl G σ (YY c j) a j)) : celK G σ a H := by
  subst hk
  unfold celK
  rw [if_pos hc]
  exact h
theorem celK.ofArr {G : GG} {σ : Sto} {a t : Nat} {H : Heap} (hk : (kd a).1 = t) (hc : ¬ t < 7) (h : H[ad G a]? = some (arrV (gC G t) (kd a).2 (avl G σ t a))) : celK G σ a H := by
  subst hk
  unfold celK
  rw [if_neg hc]
  exact h
theorem kd0 : (kd 0).1 = 11 := by decide
theorem pos_of {a c : Nat} (h : (kd a).1 = c) (hc : c ≠ 11) : 1 ≤ a := by
  cases a with
  | zero => exact absurd (h.symm.trans kd0) hc
  | succ a => omega
theorem Fre_ad {G : GG} {a : Nat} (h : 1 ≤ a) : Fre G (ad G a) := by
  cases a with
  | zero => omega
  | succ a => exact Nat.le_add_right _ _
section
variable {G : GG} {b : B3} {k pc : Nat} {lc st r : List AV} {σ : Sto} {Q : Po}
theorem so_ldc2 {x : Nat} {v : Int64} (hd : decode (mB k) pc = .ok (.ldc2_w x, 3)) (hk : lok k x = true) (hq : alook cstT (mC k * 1000 + x) = some v) (h : WPs G b k (pc + 3) lc (aL v :: st) σ Q) : WPs G b k pc lc st σ Q := fun p e R s m args below meth c QQ C H locs cells slots ls hS hF hl hc hs => by
  have hw := skAll _ (alook_mem _ _ _ hq)
  obtain ⟨e1, e2, -⟩ := lok_d hk
  have hw2 := C.2.2.2.2.1 _ hw
  dsimp only at hw2
  rw [e1, e2] at hw2
  exact W.ldc2 (v := v) C.1 C.2.1 C.2.2.2.1 hw2 rfl hd (h p e R s m args below meth c QQ C H locs cells slots ls hS hF hl hc hs)
theorem so_ldc {x : Nat} {v : Int32} (hd : decode (mB k) pc = .ok (.ldc x, 2)) (hk : lok k x = true) (hq : alook csiT (mC k * 1000 + x) = some v) (h : WPs G b k (pc + 2) lc (aI v :: st) σ Q) : WPs G b k pc lc st σ Q := fun p e R s m args below meth c QQ C H locs cells slots ls hS hF hl hc hs => by
  have hw := ikAll _ (alook_mem _ _ _ hq)
  obtain ⟨e1, e2, -⟩ := lok_d hk
  have hw2 := C.2.2.2.2.1 _ hw
  dsimp only at hw2
  rw [e1, e2] at hw2
  exact W.ldc (v := v) C.1 C.2.1 C.2.2.2.1 hw2 rfl hd (h p e R s m args below meth c QQ C H locs cells slots ls hS hF hl hc hs)
theorem so_get {x a j ci t f : Nat} {v : AV} (hd : decode (mB k) pc = .ok (.getfield x, 3)) (hk : lok k x = true) (hq : alook fldT (mC k * 1000 + x) = some (ci, j, t, f)) (ho : okO σ a ci) (hv : fk (YY ci j) = t → rho G v = fvl G σ (YY ci j) a j) (h : WPs G b k (pc + 3) lc (v :: r) σ Q) : WPs G b k pc lc (aR (some a) :: r) σ Q := fun p e R s m args below meth c QQ C H locs cells slots ls hS hF hl hc hs => by
  obtain ⟨c1, c2, c3, c4, -, -, -⟩ := flAll _ (alook_mem _ _ _ hq)
  obtain ⟨e1, e2, -⟩ := lok_d hk
  rw [e1, e2] at c4
  obtain ⟨d1, d2, d3, d4, -⟩ := clAll ci c1
  have ha : 1 ≤ a := pos_of ho.2 (by omega)
  obtain ⟨cell, q1, q2, q3, q4⟩ := (hS.2.2.2.2.2.2.2.2 a ha ho.1).obj ho.2 c1
  obtain ⟨hSl, hfc, kC, hkC, hkind⟩ := C.2.2.2.2.2.1.1.1 ci _ d1
  obtain ⟨cf, kf, fi, fl, hi, hsl⟩ := hSl j c2
  refine W.getf (v := rho G v) C.1 C.2.1 C.2.2.2.1 (C.2.2.2.2.1 _ c4) hi (u_facts hfc hkC (u_lays C.2.2.2.2.1 d2 c2) hi).1 q1 (by rw [q3]; exact fun z => by cases z) ?_ rfl rfl hd (h p e R s m args below meth c QQ C H locs cells slots ls hS hF hl hc hs)
  rw [hsl, q4 j c2, hv c3]
theorem fvl_si {G : GG} {σ : Sto} {t : FieldType} {a j : Nat} {x : Int32} (ht : fk t = 0 ∨ fk t = 1) : fvl G (si σ a j x) t a j = .int x := by
  unfold fvl
  rcases ht with ht | ht <;> rw [ht] <;> simp only [gi_si] <;> simp [up1]
theorem fvl_sl {G : GG} {σ : Sto} {t : FieldType} {a j : Nat} {x : Int64} (ht : fk t = 2) : fvl G (sl σ a j x) t a j = .long x := by
  unfold fvl
  rw [ht]
  simp only [gl_sl]
  simp [up1]
theorem fvl_sr {G : GG} {σ : Sto} {t : FieldType} {a j : Nat} {x : Option Nat} (ht : fk t = 3) : fvl G (sr σ a j x) t a j = rvo G x := by
  unfold fvl
  rw [ht]
  simp only [gr_sr]
  simp [up1]
theorem fvl_ne {G : GG} {σ σ' : Sto} {t : FieldType} {a j : Nat} (h1 : gi σ' a j = gi σ a j) (h2 : gl σ' a j = gl σ a j) (h3 : gr σ' a j = gr σ a j) : fvl G σ' t a j = fvl G σ t a j := by
  unfold fvl
  rw [h1, h2, h3]
/-- a field is written -/
theorem so_put {x a j ci t f : Nat} {v : AV} {σ' : Sto} (hd : decode (mB k) pc = .ok (.putfield x, 3)) (hk : lok k x = true) (hq : alook fldT (mC k * 1000 + x) = some (ci, j, t, f)) (hf : (f.beq 0 || (isIn k && (mC k).beq ci)) = true) (ho : okO σ a ci)
    (hn : sn σ' = sn σ) (h0 : ∀ c, c ≠ a → sameAt σ σ' c) (h1 : ∀ i, i ≠ j → gi σ' a i = gi σ a i ∧ gl σ' a i = gl σ a i ∧ gr σ' a i = gr σ a i) (hv : fk (YY ci j) = t → rho G v = fvl G σ' (YY ci j) a j ∧ narrow (YY ci j) (rho G v) = rho G v ∧ fits (YY ci j) (rho G v) = true)
    (h : WPs G b k (pc + 3) lc r σ' Q) : WPs G b k pc lc (v :: aR (some a) :: r) σ Q := fun p e R s m args below meth c QQ C H locs cells slots ls hS hF hl hc hs => by
  obtain ⟨c1, c2, c3, c4, c5, c6, c7⟩ := flAll _ (alook_mem _ _ _ hq)
  obtain ⟨e1, e2, e3⟩ := lok_d hk
  rw [e1, e2] at c4
  obtain ⟨d1, d2, d3, d4, -⟩ := clAll ci c1
  obtain ⟨v1, v2, v3⟩ := hv c3
  have ha : 1 ≤ a := pos_of ho.2 (by omega)
  obtain ⟨cell, q1, q2, q3, q4⟩ := (hS.2.2.2.2.2.2.2.2 a ha ho.1).obj ho.2 c1
  have hK := C.2.2.2.2.2.1.1
  have hts := C.2.2.2.2.1
  have hap := va_apart (own := (mY k).cls) hts d2 (YY ci) d4 d3 hK d1
  obtain ⟨hSl, hfc, kC, hkC, hkind⟩ := hK.1 ci _ d1
  obtain ⟨cf, kf, fi, fl, hi, hsl⟩ := hSl j c2
  have hst := (u_facts hfc hkC (u_lays hts d2 c2) hi).1
  have hlay := hts _ (d2 _ (u_in_lay c2))
  unfold u_lay at hlay
  have hend : ∀ (H' : Heap), H'[ad G a]? = some (cell.setSlot fl.slot (rho G v)) → H'.size = H.size → (∀ q, q ≠ ad G a → H'[q]? = H[q]?) → W p (gA G) e R s m args below meth c H' (locs ++ [⟨ad G a, fl.slot⟩]) cells slots QQ (F0 m (pc + 3) ls (r.map (rho G))) := by
    intro H' z1 z2 z3
    rw [hsl] at z1
    refine h p e R s m args below meth c QQ C H' _ cells slots ls ?_ ?_ hl hc hs
    · refine hS.upd hn ha h0 z2 z3 (celK.ofObj ho.2 c1 ⟨_, z1, q2, q3, fun i hi' => ?_⟩)
      have w := t_set q4 hap c2 (rho G v) i hi'
      rw [w]
      unfold updV
      by_cases ei : i = j
      · rw [if_pos ei, ei, v1]
      · rw [if_neg ei]
        obtain ⟨g1, g2, g3⟩ := h1 i ei
        exact congrArg some (fvl_ne g1 g2 g3).symm
    · exact hF.put z2 z3 (Fre_ad ha)
  by_cases hfin : ((TT ci) j).2.2.2 = true
  · rw [if_pos hfin] at hlay
    have hf1 : f.beq 0 = false := by
      rw [hfin] at c5
      cases f with
      | zero => cases c5
      | succ f => rfl
    rw [hf1, Bool.false_or, Bool.and_eq_true] at hf
    have hci : mC k = ci := Nat.eq_of_beq_eq_true hf.2
    have hRR : RR ci = cnm ci := (show ∀ c, c < 7 → RR c = cnm c by decide) ci c1
    have hcf : m.cls = cf := by
      obtain ⟨_, _, c', _, _, _, -, -, hf', -, -, -, hown2, -⟩ := Cond.laysFinal_spec hlay
      have e1' : c' = cf := by have := hi.symm.trans hf'; simp at this; exact this.1.symm
      rw [← e1']
      refine Option.some.inj (C.2.2.2.1.symm.trans ?_)
      rw [← own_ok k e3, hci, ← hRR, ← c7]
      exact hown2
    have h6 := u_fits hfc hkC hkind (Or.inr hlay) hi (d4 j c2) v2 v3
    exact W.putFinK C.1 C.2.1 C.2.2.2.1 (hts _ c4) hi hst hcf (C.2.2.2.2.2.2.2.2.1 hf.1) (by rw [q2]; exact h6) q1 q3 (by rw [hsl]; exact k2_hasslot (q4 j c2)) rfl rfl hd hend
  · rw [if_neg hfin] at hlay
    have h6 := u_store hfc hkC hkind hlay hi (d4 j c2) v2 v3
    exact W.putK C.1 C.2.1 (f := fl) ⟨C.2.2.2.1, hts _ c4, ⟨_, _, _, hi⟩, hst⟩ (by rw [q2]; exact h6) q1 q3 (by rw [hsl]; exact k2_hasslot (q4 j c2)) rfl rfl hd hend
theorem in_lt {i : Int32} {n : Nat} (h : vp_in i n) : i.toNatClampNeg < n := Nat.not_le.mp fun q => h (Or.inr q)
theorem so_iaload {i : Int32} {a : Nat} (hd : decode (mB k) pc = .ok (.iaload, 1)) (ho : okA σ a 7 i) (h : WPs G b k (pc + 1) lc (aI (gi σ a i.toNatClampNeg) :: r) σ Q) : WPs G b k pc lc (aI i :: aR (some a) :: r) σ Q := fun p e R s m args below meth c QQ C H locs cells slots ls hS hF hl hc hs => by
  have hx := (hS.2.2.2.2.2.2.2.2 a (pos_of ho.2.1 (by omega)) ho.1).arr ho.2.1 (by omega)
  exact W.iald (v := .int (gi σ a i.toNatClampNeg)) C.1 C.2.1 hx ((C.2.2.2.2.2.1.1.2 0 _ rfl).1 _ _) (fun q => by cases q) (by rw [arrV_size]; exact ho.2.2) (by rw [arrV_read _ _ (in_lt ho.2.2)]; rfl) rfl rfl hd (h p e R s m args below meth c QQ C H locs cells slots ls hS hF hl hc hs)
theorem so_isload {i : Int32} (hd : decode (mB k) pc = .ok (.iaload, 1)) (ho : okS σ i) (h : WPs G b k (pc + 1) lc (aI (gi σ 0 i.toNatClampNeg) :: r) σ Q) : WPs G b k pc lc (aI i :: aR (some 0) :: r) σ Q := fun p e R s m args below meth c QQ C H locs cells slots ls hS hF hl hc hs => by
  have h' := h p e R s m args below meth c QQ C H locs cells slots ls hS hF hl hc hs
  obtain ⟨-, -, -, x4, x5, x6, x7, x8, -⟩ := hS
  have e9 : scL σ = gN G := by unfold scL; rw [x7]; rfl
  unfold okS at ho
  rw [e9] at ho
  exact W.iald (v := .int (gi σ 0 i.toNatClampNeg)) C.1 C.2.1 x4 C.2.2.2.2.2.1.2.1 x5 (by rw [x6]; exact ho) (x8 _ (in_lt ho)) rfl rfl hd h'
theorem so_baload {i : Int32} {a : Nat} (hd : decode (mB k) pc = .ok (.baload, 1)) (ho : okA σ a 9 i) (h : WPs G b k (pc + 1) lc (aI (gi σ a i.toNatClampNeg) :: r) σ Q) : WPs G b k pc lc (aI i :: aR (some a) :: r) σ Q := fun p e R s m args below meth c QQ C H locs cells slots ls hS hF hl hc hs => by
  have hx := (hS.2.2.2.2.2.2.2.2 a (pos_of ho.2.1 (by omega)) ho.1).arr ho.2.1 (by omega)
  exact W.zald (v := .int (gi σ a i.toNatClampNeg)) C.1 C.2.1 hx ((C.2.2.2.2.2.1.1.2 2 _ rfl).1 _ _) (fun q => by cases q) (by rw [arrV_size]; exact ho.2.2) (by rw [arrV_read _ _ (in_lt ho.2.2)]; rfl) rfl rfl hd (h p e R s m args below meth c QQ C H locs cells slots ls hS hF hl hc hs)
theorem so_laload {i : Int32} {a : Nat} (hd : decode (mB k) pc = .ok (.laload, 1)) (ho : okA σ a 8 i) (h : WPs G b k (pc + 1) lc (aL (gl σ a i.toNatClampNeg) :: r) σ Q) : WPs G b k pc lc (aI i :: aR (some a) :: r) σ Q := fun p e R s m args below meth c QQ C H locs cells slots ls hS hF hl hc hs => by
  have hx := (hS.2.2.2.2.2.2.2.2 a (pos_of ho.2.1 (by omega)) ho.1).arr ho.2.1 (by omega)
  exact W.lald (v := .long (gl σ a i.toNatClampNeg)) C.1 C.2.1 hx ((C.2.2.2.2.2.1.1.2 1 _ rfl).1 _ _) (fun q => by cases q) (by rw [arrV_size]; exact ho.2.2) (by rw [arrV_read _ _ (in_lt ho.2.2)]; rfl) rfl rfl hd (h p e R s m args below meth c QQ C H locs cells slots ls hS hF hl hc hs)
theorem so_aaload {i : Int32} {a : Nat} (hd : decode (mB k) pc = .ok (.aaload, 1)) (ho : okA σ a 10 i) (h : WPs G b k (pc + 1) lc (aR (gr σ a i.toNatClampNeg) :: r) σ Q) : WPs G b k pc lc (aI i :: aR (some a) :: r) σ Q := fun p e R s m args below meth c QQ C H locs cells slots ls hS hF hl hc hs => by
  have hx := (hS.2.2.2.2.2.2.2.2 a (pos_of ho.2.1 (by omega)) ho.1).arr ho.2.1 (by omega)
  exact W.aald (v := rvo G (gr σ a i.toNatClampNeg)) (ty := .object "TracePost$Trace") C.1 C.2.1 hx ((C.2.2.2.2.2.1.1.2 3 _ rfl).1 _ _) rfl (fun q => by cases q) (by rw [arrV_size]; exact ho.2.2) (by rw [arrV_read _ _ (in_lt ho.2.2)]; rfl) rfl rfl hd (h p e R s m args below meth c QQ C H locs cells slots ls hS hF hl hc hs)
theorem so_alen0 (hd : decode (mB k) pc = .ok (.arraylength, 1)) (h : WPs G b k (pc + 1) lc (aI (Int32.ofNat (scL σ)) :: r) σ Q) : WPs G b k pc lc (aR (some 0) :: r) σ Q := fun p e R s m args below meth c QQ C H locs cells slots ls hS hF hl hc hs => by
  have h' := h p e R s m args below meth c QQ C H locs cells slots ls hS hF hl hc hs
  obtain ⟨-, -, -, x4, x5, x6, x7, x8, -⟩ := hS
  have e9 : scL σ = gN G := by unfold scL; rw [x7]; rfl
  exact W.alen (n := Int32.ofNat (scL σ)) C.1 C.2.1 x4 C.2.2.2.2.2.1.2.1 (by rw [x6, e9] <;> rfl) rfl rfl hd h'
theorem so_alen {a : Nat} (hd : decode (mB k) pc = .ok (.arraylength, 1)) (ho : a < sn σ ∧ 7 ≤ (kd a).1 ∧ (kd a).1 ≤ 10) (h : WPs G b k (pc + 1) lc (aI (Int32.ofNat (kd a).2) :: r) σ Q) : WPs G b k pc lc (aR (some a) :: r) σ Q := fun p e R s m args below meth c QQ C H locs cells slots ls hS hF hl hc hs => by
  have hx := (hS.2.2.2.2.2.2.2.2 a (pos_of (a := a) rfl (by omega)) ho.1).arr rfl (by omega)
  have h' := h p e R s m args below meth c QQ C H locs cells slots ls hS hF hl hc hs
  have hty := C.2.2.2.2.2.1.1.2
  have h4 : (kd a).1 = 7 ∨ (kd a).1 = 8 ∨ (kd a).1 = 9 ∨ (kd a).1 = 10 := by omega
  rcases h4 with z | z | z | z
  · rw [z] at hx
    exact W.alen (n := Int32.ofNat (kd a).2) C.1 C.2.1 hx ((hty 0 _ rfl).1 _ _) (by rw [arrV_size] <;> rfl) rfl rfl hd h'
  · rw [z] at hx
    exact W.alen (n := Int32.ofNat (kd a).2) C.1 C.2.1 hx ((hty 1 _ rfl).1 _ _) (by rw [arrV_size] <;> rfl) rfl rfl hd h'
  · rw [z] at hx
    exact W.alen (n := Int32.ofNat (kd a).2) C.1 C.2.1 hx ((hty 2 _ rfl).1 _ _) (by rw [arrV_size] <;> rfl) rfl rfl hd h'
  · rw [z] at hx
    exact W.alen (n := Int32.ofNat (kd a).2) C.1 C.2.1 hx ((hty 3 _ rfl).1 _ _) (by rw [arrV_size] <;> rfl) rfl rfl hd h'
theorem so_iastore {i x : Int32} {a : Nat} (hd : decode (mB k) pc = .ok (.iastore, 1)) (ho : okA σ a 7 i) (h : WPs G b k (pc + 1) lc r (si σ a i.toNatClampNeg x) Q) : WPs G b k pc lc (aI x :: aI i :: aR (some a) :: r) σ Q := fun p e R s m args below meth c QQ C H locs cells slots ls hS hF hl hc hs => by
  have ha := pos_of ho.2.1 (by omega)
  have hx := (hS.2.2.2.2.2.2.2.2 a ha ho.1).arr ho.2.1 (by omega)
  refine W.iast C.1 C.2.1 hx ((C.2.2.2.2.2.1.1.2 0 _ rfl).1 _ _) (fun q => by cases q) (by rw [arrV_size]; exact ho.2.2) rfl rfl hd fun H' z1 z2 z3 => ?_
  refine h p e R s m args below meth c QQ C H' _ cells slots ls ?_ ?_ hl hc hs
  · refine hS.upd rfl ha (fun c hc => same_si hc) z2 z3 (celK.ofArr ho.2.1 (by omega) ?_)
    rw [z1, arrV_store]
    congr 2
    funext q
    unfold updV avl
    simp only [gi_si, up1]
    split <;> rfl
  · exact hF.put z2 z3 (Fre_ad ha)
theorem so_bastore {i x : Int32} {a : Nat} (hd : decode (mB k) pc = .ok (.bastore, 1)) (ho : okA σ a 9 i) (hx01 : x = 0 ∨ x = 1) (h : WPs G b k (pc + 1) lc r (si σ a i.toNatClampNeg x) Q) : WPs G b k pc lc (aI x :: aI i :: aR (some a) :: r) σ Q := fun p e R s m args below meth c QQ C H locs cells slots ls hS hF hl hc hs => by
  have ha := pos_of ho.2.1 (by omega)
  have hx := (hS.2.2.2.2.2.2.2.2 a ha ho.1).arr ho.2.1 (by omega)
  have hn : narrow .boolean (.int x) = .int x := by rcases hx01 with rfl | rfl <;> rfl
  refine W.zast C.1 C.2.1 hx ((C.2.2.2.2.2.1.1.2 2 _ rfl).1 _ _) (fun q => by cases q) (by rw [arrV_size]; exact ho.2.2) rfl rfl hd fun H' z1 z2 z3 => ?_
  rw [hn] at z1
  refine h p e R s m args below meth c QQ C H' _ cells slots ls ?_ ?_ hl hc hs
  · refine hS.upd rfl ha (fun c hc => same_si hc) z2 z3 (celK.ofArr ho.2.1 (by omega) ?_)
    rw [z1, arrV_store]
    congr 2
    funext q
    unfold updV avl
    simp only [gi_si, up1]
    split <;> rfl
  · exact hF.put z2 z3 (Fre_ad ha)
theorem so_lastore {i : Int32} {x : Int64} {a : Nat} (hd : decode (mB k) pc = .ok (.lastore, 1)) (ho : okA σ a 8 i) (h : WPs G b k (pc + 1) lc r (sl σ a i.toNatClampNeg x) Q) : WPs G b k pc lc (aL x :: aI i :: aR (some a) :: r) σ Q := fun p e R s m args below meth c QQ C H locs cells slots ls hS hF hl hc hs => by
  have ha := pos_of ho.2.1 (by omega)
  have hx := (hS.2.2.2.2.2.2.2.2 a ha ho.1).arr ho.2.1 (by omega)
  refine W.last C.1 C.2.1 hx ((C.2.2.2.2.2.1.1.2 1 _ rfl).1 _ _) (fun q => by cases q) (by rw [arrV_size]; exact ho.2.2) rfl rfl hd fun H' z1 z2 z3 => ?_
  refine h p e R s m args below meth c QQ C H' _ cells slots ls ?_ ?_ hl hc hs
  · refine hS.upd rfl ha (fun c hc => same_sl hc) z2 z3 (celK.ofArr ho.2.1 (by omega) ?_)
    rw [z1, arrV_store]
    congr 2
    funext q
    unfold updV avl
    simp only [gl_sl, up1]
    split <;> rfl
  · exact hF.put z2 z3 (Fre_ad ha)
theorem so_aastore {i : Int32} {x a : Nat} (hd : decode (mB k) pc = .ok (.aastore, 1)) (ho : okA σ a 10 i) (hox : okO σ x 3) (h : WPs G b k (pc + 1) lc r (sr σ a i.toNatClampNeg (some x)) Q) : WPs G b k pc lc (aR (some x) :: aI i :: aR (some a) :: r) σ Q := fun p e R s m args below meth c QQ C H locs cells slots ls hS hF hl hc hs => by
  have ha := pos_of ho.2.1 (by omega)
  have hx := (hS.2.2.2.2.2.2.2.2 a ha ho.1).arr ho.2.1 (by omega)
  obtain ⟨cellV, g1, g2, g3, -⟩ := (hS.2.2.2.2.2.2.2.2 x (pos_of hox.2 (by omega)) hox.1).obj hox.2 (by omega)
  have hcls := (C.2.2.2.2.2.1.1.1 3 _ rfl).2
  obtain ⟨kA, comp, k1, k2, k3, -⟩ := (C.2.2.2.2.2.1.1.2 3 _ rfl).2
  have hcomp : comp = (gD G).1 3 := Option.some.inj (k3.symm.trans hcls.1)
  subst hcomp
  obtain ⟨kC, hkC, -⟩ := hcls.2
  refine W.aast C.1 C.2.1 hx (fun q h => by cases h) (fun h => by cases h) k1 k2 rfl hkC ⟨fun q => ho.2.2 (Or.inl q), by rw [arrV_size]; exact in_lt ho.2.2⟩ g1 (fun q h => by rw [g3] at h; cases h) (by rw [g2]; exact hkC) (by rw [g2]; exact va_assign hcls) rfl rfl hd fun H' z1 z2 z3 => ?_
  refine h p e R s m args below meth c QQ C H' _ cells slots ls ?_ ?_ hl hc hs
  · refine hS.upd rfl ha (fun c hc => same_sr hc) z2 z3 (celK.ofArr ho.2.1 (by omega) ?_)
    rw [z1, arrV_store]
    congr 2
    funext q
    unfold updV avl
    simp only [gr_sr, up1]
    split <;> rfl
  · exact hF.put z2 z3 (Fre_ad ha)
end
