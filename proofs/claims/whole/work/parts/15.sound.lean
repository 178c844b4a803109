theorem nf_ref {t : FieldType} (h : (∃ n, t = .object n) ∨ ∃ u, t = .array u) (G : GG) (x : Option Nat) : narrow t (rvo G x) = rvo G x ∧ fits t (rvo G x) = true := by
  rcases h with ⟨n, rfl⟩ | ⟨n, rfl⟩ <;> cases x <;> exact ⟨rfl, rfl⟩
theorem fk3 {c j : Nat} (hc : c < 7) (hj : j < NN c) (h : fk (YY c j) = 3) : (∃ n, YY c j = .object n) ∨ ∃ u, YY c j = .array u := by
  obtain ⟨-, -, -, -, -, -, d7⟩ := clAll c hc
  rcases d7 j hj with e | e | e | e | e
  · rw [e] at h; cases h
  · rw [e] at h; cases h
  · rw [e] at h; cases h
  · exact Or.inl e
  · exact Or.inr e
theorem up1_ne {α : Type} (f : Nat → α) {k j : Nat} (v : α) (h : j ≠ k) : up1 f k v j = f j := if_neg h
section
variable {G : GG} {b : B3} {k pc : Nat} {lc st : List AV} {σ : Sto} {Q : Po}
theorem so_vget {x : Nat} (hd : decode (mB k) pc = .ok (.getfield x, 3)) (hk : lok k x = true) (h : vget (WPs G) b k pc lc st σ Q (alook fldT (mC k * 1000 + x))) : WPs G b k pc lc st σ Q := by
  unfold vget at h
  split at h
  · rename_i ci j f hq
    obtain ⟨a, r, y1, h1, h2⟩ := p1o_d h
    rw [y1]
    exact so_get hd hk hq h1 (fun e => by unfold fvl; rw [e]; rfl) h2
  · rename_i ci j f hq
    obtain ⟨a, r, y1, h1, h2⟩ := p1o_d h
    rw [y1]
    exact so_get hd hk hq h1 (fun e => by unfold fvl; rw [e]; rfl) h2
  · rename_i ci j f hq
    obtain ⟨a, r, y1, h1, h2⟩ := p1o_d h
    rw [y1]
    exact so_get hd hk hq h1 (fun e => by unfold fvl; rw [e]; rfl) h2
  · rename_i ci j f hq
    obtain ⟨a, r, y1, h1, h2⟩ := p1o_d h
    rw [y1]
    exact so_get hd hk hq h1 (fun e => by unfold fvl; rw [e]; rfl) h2
  · exact h.elim
theorem so_vput {x : Nat} (hd : decode (mB k) pc = .ok (.putfield x, 3)) (hk : lok k x = true) (h : vput (WPs G) b k pc lc st σ Q (alook fldT (mC k * 1000 + x))) : WPs G b k pc lc st σ Q := by
  unfold vput at h
  split at h
  · rename_i ci j f hq
    obtain ⟨hf, h⟩ := gd_t h
    obtain ⟨v, r1, y1, h1⟩ := p1i_d h
    obtain ⟨a, r, y2, h2, h3⟩ := p1o_d h1
    rw [y1, y2]
    refine so_put (v := aI v) (σ' := si σ a j v) hd hk hq hf h2 rfl (fun c hc => same_si hc) (fun i hi => ⟨by rw [gi_si, up1_ne _ _ hi], rfl, rfl⟩) (fun e => ⟨(fvl_si (Or.inl e)).symm, ?_, ?_⟩) h3
    · rw [fk0 e]; rfl
    · rw [fk0 e]; rfl
  · rename_i ci j f hq
    obtain ⟨hf, h⟩ := gd_t h
    obtain ⟨v, r1, y1, h1⟩ := p1i_d h
    obtain ⟨a, r, y2, h2, h01, h3⟩ := p1o_d h1
    rw [y1, y2]
    refine so_put (v := aI v) (σ' := si σ a j v) hd hk hq hf h2 rfl (fun c hc => same_si hc) (fun i hi => ⟨by rw [gi_si, up1_ne _ _ hi], rfl, rfl⟩) (fun e => ⟨(fvl_si (Or.inr e)).symm, ?_, ?_⟩) h3
    · rw [fk1 e]; rcases h01 with rfl | rfl <;> rfl
    · rw [fk1 e]; rcases h01 with rfl | rfl <;> rfl
  · rename_i ci j f hq
    obtain ⟨hf, h⟩ := gd_t h
    obtain ⟨v, r1, y1, h1⟩ := p1l_d h
    obtain ⟨a, r, y2, h2, h3⟩ := p1o_d h1
    rw [y1, y2]
    refine so_put (v := aL v) (σ' := sl σ a j v) hd hk hq hf h2 rfl (fun c hc => same_sl hc) (fun i hi => ⟨rfl, by rw [gl_sl, up1_ne _ _ hi], rfl⟩) (fun e => ⟨(fvl_sl e).symm, ?_, ?_⟩) h3
    · rw [fk2 e]; rfl
    · rw [fk2 e]; rfl
  · rename_i ci j f hq
    obtain ⟨hf, h⟩ := gd_t h
    obtain ⟨v, r1, y1, h1⟩ := p1r_d h
    obtain ⟨a, r, y2, h2, h3⟩ := p1o_d h1
    rw [y1, y2]
    obtain ⟨c1, c2, -⟩ := flAll _ (alook_mem _ _ _ hq)
    exact so_put (v := aR v) (σ' := sr σ a j v) hd hk hq hf h2 rfl (fun c hc => same_sr hc) (fun i hi => ⟨rfl, rfl, by rw [gr_sr, up1_ne _ _ hi]⟩) (fun e => ⟨(fvl_sr e).symm, (nf_ref (fk3 c1 c2 e) G v).1, (nf_ref (fk3 c1 c2 e) G v).2⟩) h3
  · exact h.elim
theorem so_vnew {x : Nat} (hd : decode (mB k) pc = .ok (.new x, 3)) (hk : lok k x = true) (h : vnew (WPs G) b k pc lc st σ Q (sn σ) (alook clkT (mC k * 1000 + x))) : WPs G b k pc lc st σ Q := by
  unfold vnew at h
  split at h
  · rename_i ci hq
    obtain ⟨h1, h2, h3, h4, h5⟩ := h
    exact so_new hd hk hq h2 h3 h4 h5
  · exact h.elim
theorem so_vret {i : Instr} (hi : i = .return_ ∨ i = .ireturn ∨ i = .lreturn ∨ i = .areturn) (hd : decode (mB k) pc = .ok (i, 1)) (h : vret st σ Q (mK k) i) : WPs G b k pc lc st σ Q := fun p e R s m args below meth c QQ C H locs cells slots ls hS hF hl hc hs => by
  have hC := C.2.2.2.2.2.2.2.2.2
  have h1 : cells ≤ R.cells := by omega
  have h2 : slots ≤ R.slots := by omega
  unfold vret at h
  split at h
  · rename_i hk
    split at h
    · exact hC none σ pc H locs cells slots ls .return_ (by unfold rtI; rw [hk]; trivial) h hd hS hF h1 h2
    · exact h.elim
  · rename_i hk
    split at h
    · rename_i x
      exact hC (some (aI x)) σ pc H locs cells slots ls .ireturn (by unfold rtI; rw [hk]; trivial) h hd hS hF h1 h2
    · exact h.elim
  · rename_i hk
    split at h
    · rename_i x
      exact hC (some (aI x)) σ pc H locs cells slots ls .ireturn (by unfold rtI; rw [hk]; exact h.1) h.2 hd hS hF h1 h2
    · exact h.elim
  · rename_i hk
    split at h
    · rename_i x
      exact hC (some (aL x)) σ pc H locs cells slots ls .lreturn (by unfold rtI; rw [hk]; trivial) h hd hS hF h1 h2
    · exact h.elim
  · rename_i hk
    split at h
    · rename_i x
      exact hC (some (aR x)) σ pc H locs cells slots ls .areturn (by unfold rtI; rw [hk]; trivial) h hd hS hF h1 h2
    · exact h.elim
  · exact h.elim
theorem beq_d {a c : Nat} (h : a.beq c = true) : a = c := Nat.eq_of_beq_eq_true h
theorem vstep_sound (h : vstep (WPs G) b k pc lc st σ Q) : WPs G b k pc lc st σ Q := by
  unfold vstep at h
  split at h
  · rename_i i len hi
    have hd := dec_ok k pc i len hi
    unfold vop at h
    split at h
    · have g9 := gd_t h; clear h; obtain ⟨g0, h⟩ := g9; cases beq_d g0; exact so_iconst hd h
    · have g9 := gd_t h; clear h; obtain ⟨g0, h⟩ := g9; cases beq_d g0; exact so_bipush hd h
    · have g9 := gd_t h; clear h; obtain ⟨g0, h⟩ := g9; cases beq_d g0; exact so_sipush hd h
    · have g9 := gd_t h; clear h; obtain ⟨g0, h⟩ := g9; cases beq_d g0; exact so_lconst hd h
    · have g9 := gd_t h; clear h; obtain ⟨g0, h⟩ := g9; rw [Bool.and_eq_true] at g0; cases beq_d g0.1
      split at h
      · rename_i hq; exact so_ldc2 hd g0.2 hq h
      · exact h.elim
    · have g9 := gd_t h; clear h; obtain ⟨g0, h⟩ := g9; rw [Bool.and_eq_true] at g0; cases beq_d g0.1
      split at h
      · rename_i hq; exact so_ldc hd g0.2 hq h
      · exact h.elim
    · have g9 := gd_t h; clear h; obtain ⟨g0, h⟩ := g9; cases beq_d g0; exact so_null hd h
    · have g9 := gd_t h; clear h; obtain ⟨g0, h⟩ := g9; cases beq_d g0; obtain ⟨v, hv, h⟩ := ldi_d h; exact so_iload hd hv h
    · have g9 := gd_t h; clear h; obtain ⟨g0, h⟩ := g9; cases beq_d g0; obtain ⟨v, hv, h⟩ := ldi_d h; exact so_iload_n hd hv h
    · have g9 := gd_t h; clear h; obtain ⟨g0, h⟩ := g9; cases beq_d g0; obtain ⟨v, hv, h⟩ := ldl_d h; exact so_lload hd hv h
    · have g9 := gd_t h; clear h; obtain ⟨g0, h⟩ := g9; cases beq_d g0; obtain ⟨v, hv, h⟩ := ldl_d h; exact so_lload_n hd hv h
    · have g9 := gd_t h; clear h; obtain ⟨g0, h⟩ := g9; cases beq_d g0; obtain ⟨v, hv, h⟩ := lda_d h; exact so_aload hd hv h
    · have g9 := gd_t h; clear h; obtain ⟨g0, h⟩ := g9; cases beq_d g0; obtain ⟨v, hv, h⟩ := lda_d h; exact so_aload_n hd hv h
    · have g9 := gd_t h; clear h; obtain ⟨g0, h⟩ := g9; rw [Bool.and_eq_true] at g0; cases beq_d g0.1; obtain ⟨v, r, y1, h⟩ := p1i_d h; rw [y1]; exact so_istore hd (Nat.blt_eq.mp g0.2) h
    · have g9 := gd_t h; clear h; obtain ⟨g0, h⟩ := g9; rw [Bool.and_eq_true] at g0; cases beq_d g0.1; obtain ⟨v, r, y1, h⟩ := p1i_d h; rw [y1]; exact so_istore_n hd (Nat.blt_eq.mp g0.2) h
    · have g9 := gd_t h; clear h; obtain ⟨g0, h⟩ := g9; rw [Bool.and_eq_true] at g0; cases beq_d g0.1; obtain ⟨v, r, y1, h⟩ := p1l_d h; rw [y1]; exact so_lstore hd (Nat.blt_eq.mp g0.2) h
    · have g9 := gd_t h; clear h; obtain ⟨g0, h⟩ := g9; rw [Bool.and_eq_true] at g0; cases beq_d g0.1; obtain ⟨v, r, y1, h⟩ := p1l_d h; rw [y1]; exact so_lstore_n hd (Nat.blt_eq.mp g0.2) h
    · have g9 := gd_t h; clear h; obtain ⟨g0, h⟩ := g9; rw [Bool.and_eq_true] at g0; cases beq_d g0.1; obtain ⟨v, r, y1, h⟩ := p1r_d h; rw [y1]; exact so_astore hd (Nat.blt_eq.mp g0.2) h
    · have g9 := gd_t h; clear h; obtain ⟨g0, h⟩ := g9; rw [Bool.and_eq_true] at g0; cases beq_d g0.1; obtain ⟨v, r, y1, h⟩ := p1r_d h; rw [y1]; exact so_astore_n hd (Nat.blt_eq.mp g0.2) h
    · have g9 := gd_t h; clear h; obtain ⟨g0, h⟩ := g9; rw [Bool.and_eq_true] at g0; cases beq_d g0.1; obtain ⟨v, hv, h⟩ := ldi_d h; exact so_iinc hd (Nat.blt_eq.mp g0.2) hv h
    · have g9 := gd_t h; clear h; obtain ⟨g0, h⟩ := g9; cases beq_d g0; obtain ⟨y, r1, y1, h⟩ := p1i_d h; obtain ⟨z, r, y2, h⟩ := p1i_d h; rw [y1, y2]; exact so_iadd hd h
    · have g9 := gd_t h; clear h; obtain ⟨g0, h⟩ := g9; cases beq_d g0; obtain ⟨y, r1, y1, h⟩ := p1i_d h; obtain ⟨z, r, y2, h⟩ := p1i_d h; rw [y1, y2]; exact so_isub hd h
    · have g9 := gd_t h; clear h; obtain ⟨g0, h⟩ := g9; cases beq_d g0; obtain ⟨y, r1, y1, h⟩ := p1i_d h; obtain ⟨z, r, y2, h⟩ := p1i_d h; rw [y1, y2]; exact so_imul hd h
    · have g9 := gd_t h; clear h; obtain ⟨g0, h⟩ := g9; cases beq_d g0; obtain ⟨y, r1, y1, h⟩ := p1i_d h; obtain ⟨z, r, y2, h⟩ := p1i_d h; rw [y1, y2]; exact so_iand hd h
    · have g9 := gd_t h; clear h; obtain ⟨g0, h⟩ := g9; cases beq_d g0; obtain ⟨y, r1, y1, h⟩ := p1i_d h; obtain ⟨z, r, y2, h⟩ := p1i_d h; rw [y1, y2]; exact so_idiv hd h.1 h.2
    · have g9 := gd_t h; clear h; obtain ⟨g0, h⟩ := g9; cases beq_d g0; obtain ⟨y, r1, y1, h⟩ := p1i_d h; obtain ⟨z, r, y2, h⟩ := p1i_d h; rw [y1, y2]; exact so_irem hd h.1 h.2
    · have g9 := gd_t h; clear h; obtain ⟨g0, h⟩ := g9; cases beq_d g0; obtain ⟨y, r1, y1, h⟩ := p1l_d h; obtain ⟨z, r, y2, h⟩ := p1l_d h; rw [y1, y2]; exact so_ladd hd h
    · have g9 := gd_t h; clear h; obtain ⟨g0, h⟩ := g9; cases beq_d g0; obtain ⟨y, r1, y1, h⟩ := p1l_d h; obtain ⟨z, r, y2, h⟩ := p1l_d h; rw [y1, y2]; exact so_lsub hd h
    · have g9 := gd_t h; clear h; obtain ⟨g0, h⟩ := g9; cases beq_d g0; obtain ⟨y, r1, y1, h⟩ := p1l_d h; obtain ⟨z, r, y2, h⟩ := p1l_d h; rw [y1, y2]; exact so_land hd h
    · have g9 := gd_t h; clear h; obtain ⟨g0, h⟩ := g9; cases beq_d g0; obtain ⟨y, r1, y1, h⟩ := p1l_d h; obtain ⟨z, r, y2, h⟩ := p1l_d h; rw [y1, y2]; exact so_lor hd h
    · have g9 := gd_t h; clear h; obtain ⟨g0, h⟩ := g9; cases beq_d g0; obtain ⟨y, r1, y1, h⟩ := p1l_d h; obtain ⟨z, r, y2, h⟩ := p1l_d h; rw [y1, y2]; exact so_ldiv hd h.1 h.2
    · have g9 := gd_t h; clear h; obtain ⟨g0, h⟩ := g9; cases beq_d g0; obtain ⟨y, r1, y1, h⟩ := p1l_d h; rw [y1]; exact so_lneg hd h
    · have g9 := gd_t h; clear h; obtain ⟨g0, h⟩ := g9; cases beq_d g0; obtain ⟨y, r1, y1, h⟩ := p1i_d h; obtain ⟨z, r, y2, h⟩ := p1l_d h; rw [y1, y2]; exact so_lshl hd h
    · have g9 := gd_t h; clear h; obtain ⟨g0, h⟩ := g9; cases beq_d g0; obtain ⟨y, r1, y1, h⟩ := p1i_d h; obtain ⟨z, r, y2, h⟩ := p1l_d h; rw [y1, y2]; exact so_lshr hd h
    · have g9 := gd_t h; clear h; obtain ⟨g0, h⟩ := g9; cases beq_d g0; obtain ⟨y, r1, y1, h⟩ := p1i_d h; rw [y1]; exact so_i2l hd h
    · have g9 := gd_t h; clear h; obtain ⟨g0, h⟩ := g9; cases beq_d g0; obtain ⟨y, r1, y1, h⟩ := p1l_d h; obtain ⟨z, r, y2, h⟩ := p1l_d h; rw [y1, y2]; exact so_lcmp hd h
    · have g9 := gd_t h; clear h; obtain ⟨g0, h⟩ := g9; cases beq_d g0
      split at h
      · obtain ⟨g1, h⟩ := gd_t h; exact so_dup hd (beq_d g1) h
      · exact h.elim
    · have g9 := gd_t h; clear h; obtain ⟨g0, h⟩ := g9; cases beq_d g0
      split at h
      · obtain ⟨g1, h⟩ := gd_t h; rw [Bool.and_eq_true] at g1; exact so_dup2 hd (beq_d g1.1) (beq_d g1.2) h
      · exact h.elim
    · have g9 := gd_t h; clear h; obtain ⟨g0, h⟩ := g9; cases beq_d g0; obtain ⟨y, r1, y1, h⟩ := p1i_d h; obtain ⟨t, ht, h⟩ := jmp_d h; rw [y1]; exact so_if hd ht h.1 h.2
    · have g9 := gd_t h; clear h; obtain ⟨g0, h⟩ := g9; cases beq_d g0; obtain ⟨y, r1, y1, h⟩ := p1i_d h; obtain ⟨z, r, y2, h⟩ := p1i_d h; obtain ⟨t, ht, h⟩ := jmp_d h; rw [y1, y2]; exact so_icmp hd ht h.1 h.2
    · have g9 := gd_t h; clear h; obtain ⟨g0, h⟩ := g9; cases beq_d g0; obtain ⟨y, r1, y1, h⟩ := p1r_d h; obtain ⟨z, r, y2, h⟩ := p1r_d h; obtain ⟨t, ht, h⟩ := jmp_d h; rw [y1, y2]; exact so_acmp hd ht h.1 h.2
    · have g9 := gd_t h; clear h; obtain ⟨g0, h⟩ := g9; cases beq_d g0; obtain ⟨y, r1, y1, h⟩ := p1r_d h; obtain ⟨t, ht, h⟩ := jmp_d h; rw [y1]; exact so_ifnull hd ht h.1 h.2
    · have g9 := gd_t h; clear h; obtain ⟨g0, h⟩ := g9; cases beq_d g0; obtain ⟨y, r1, y1, h⟩ := p1r_d h; obtain ⟨t, ht, h⟩ := jmp_d h; rw [y1]; exact so_ifnonnull hd ht h.1 h.2
    · have g9 := gd_t h; clear h; obtain ⟨g0, h⟩ := g9; cases beq_d g0; obtain ⟨t, ht, h⟩ := jmp_d h; exact so_goto hd ht h
    · have g9 := gd_t h; clear h; obtain ⟨g0, h⟩ := g9; obtain ⟨y, r1, y1, h⟩ := p1i_d h; obtain ⟨t, ht, h⟩ := jmp_d h; rw [y1]; exact so_switch hd (of_decide_eq_true g0) ht h
    · have g9 := gd_t h; clear h; obtain ⟨g0, h⟩ := g9; rw [Bool.and_eq_true] at g0; cases beq_d g0.1; exact so_vget hd g0.2 h
    · have g9 := gd_t h; clear h; obtain ⟨g0, h⟩ := g9; rw [Bool.and_eq_true] at g0; cases beq_d g0.1; exact so_vput hd g0.2 h
    · have g9 := gd_t h; clear h; obtain ⟨g0, h⟩ := g9; cases beq_d g0; obtain ⟨y, r1, y1, h⟩ := p1i_d h; obtain ⟨z, r, y2, h⟩ := p1o_d h; rw [y1, y2]
      rcases h.1 with ⟨e0, g1⟩ | ⟨-, g1⟩
      · have h2 := h.2
        subst e0
        exact so_isload hd g1 h2
      · exact so_iaload hd g1 h.2
    · have g9 := gd_t h; clear h; obtain ⟨g0, h⟩ := g9; cases beq_d g0; obtain ⟨y, r1, y1, h⟩ := p1i_d h; obtain ⟨z, r, y2, h⟩ := p1o_d h; rw [y1, y2]; exact so_baload hd h.1 h.2
    · have g9 := gd_t h; clear h; obtain ⟨g0, h⟩ := g9; cases beq_d g0; obtain ⟨y, r1, y1, h⟩ := p1i_d h; obtain ⟨z, r, y2, h⟩ := p1o_d h; rw [y1, y2]; exact so_laload hd h.1 h.2
    · have g9 := gd_t h; clear h; obtain ⟨g0, h⟩ := g9; cases beq_d g0; obtain ⟨y, r1, y1, h⟩ := p1i_d h; obtain ⟨z, r, y2, h⟩ := p1o_d h; rw [y1, y2]; exact so_aaload hd h.1 h.2
    · have g9 := gd_t h; clear h; obtain ⟨g0, h⟩ := g9; cases beq_d g0; obtain ⟨w, r0, y0, h⟩ := p1i_d h; obtain ⟨y, r1, y1, h⟩ := p1i_d h; obtain ⟨z, r, y2, h⟩ := p1o_d h; rw [y0, y1, y2]; exact so_iastore hd h.1 h.2
    · have g9 := gd_t h; clear h; obtain ⟨g0, h⟩ := g9; cases beq_d g0; obtain ⟨w, r0, y0, h⟩ := p1i_d h; obtain ⟨y, r1, y1, h⟩ := p1i_d h; obtain ⟨z, r, y2, h⟩ := p1o_d h; rw [y0, y1, y2]; exact so_bastore hd h.1 h.2.1 h.2.2
    · have g9 := gd_t h; clear h; obtain ⟨g0, h⟩ := g9; cases beq_d g0; obtain ⟨w, r0, y0, h⟩ := p1l_d h; obtain ⟨y, r1, y1, h⟩ := p1i_d h; obtain ⟨z, r, y2, h⟩ := p1o_d h; rw [y0, y1, y2]; exact so_lastore hd h.1 h.2
    · have g9 := gd_t h; clear h; obtain ⟨g0, h⟩ := g9; cases beq_d g0; obtain ⟨w, r0, y0, h⟩ := p1o_d h; obtain ⟨y, r1, y1, h⟩ := p1i_d h; obtain ⟨z, r, y2, h⟩ := p1o_d h; rw [y0, y1, y2]; exact so_aastore hd h.1 h.2.1 h.2.2
    · have g9 := gd_t h; clear h; obtain ⟨g0, h⟩ := g9; cases beq_d g0; obtain ⟨z, r, y2, h⟩ := p1o_d h; rw [y2]
      rcases h.1 with e0 | ⟨e0, g1⟩
      · have h2 := h.2
        subst e0
        exact so_alen0 hd h2
      · have h2 := h.2
        unfold aln at h2
        rw [if_neg e0] at h2
        exact so_alen hd g1 h2
    · have g9 := gd_t h; clear h; obtain ⟨g0, h⟩ := g9; rw [Bool.and_eq_true] at g0; cases beq_d g0.1; exact so_vnew hd g0.2 h
    · have g9 := gd_t h; clear h; obtain ⟨g0, h⟩ := g9; cases beq_d g0; obtain ⟨n, r, y1, h1, h2, h3, h4, h5, h6, h7⟩ := p1i_d h; rw [y1]; exact so_newa (t := 7) (t0 := 0) hd (Or.inl ⟨rfl, rfl, rfl⟩) h1 h2 h3 h4 h5 h6 h7
    · have g9 := gd_t h; clear h; obtain ⟨g0, h⟩ := g9; cases beq_d g0; obtain ⟨n, r, y1, h1, h2, h3, h4, h5, h6, h7⟩ := p1i_d h; rw [y1]; exact so_newa (t := 8) (t0 := 1) hd (Or.inr (Or.inl ⟨rfl, rfl, rfl⟩)) h1 h2 h3 h4 h5 h6 h7
    · have g9 := gd_t h; clear h; obtain ⟨g0, h⟩ := g9; cases beq_d g0; obtain ⟨n, r, y1, h1, h2, h3, h4, h5, h6, h7⟩ := p1i_d h; rw [y1]; exact so_newa (t := 9) (t0 := 2) hd (Or.inr (Or.inr ⟨rfl, rfl, rfl⟩)) h1 h2 h3 h4 h5 h6 h7
    · have g9 := gd_t h; clear h; obtain ⟨g0, h⟩ := g9; rw [Bool.and_eq_true] at g0; cases beq_d g0.1
      split at h
      · rename_i hq
        obtain ⟨n, r, y1, h1, h2, h3, h4, h5, h6, h7⟩ := p1i_d h; rw [y1]; exact so_anew hd g0.2 hq h1 h2 h3 h4 h5 h6 h7
      · exact h.elim
    · have g9 := gd_t h; clear h; obtain ⟨g0, h⟩ := g9; rw [Bool.and_eq_true] at g0; cases beq_d g0.1; exact so_inv (Or.inl ⟨rfl, rfl⟩) hd g0.2 h
    · have g9 := gd_t h; clear h; obtain ⟨g0, h⟩ := g9; rw [Bool.and_eq_true] at g0; cases beq_d g0.1; exact so_inv (Or.inr (Or.inl ⟨rfl, rfl⟩)) hd g0.2 h
    · have g9 := gd_t h; clear h; obtain ⟨g0, h⟩ := g9; rw [Bool.and_eq_true] at g0; cases beq_d g0.1; exact so_inv (Or.inr (Or.inr ⟨rfl, rfl⟩)) hd g0.2 h
    · have g9 := gd_t h; clear h; obtain ⟨g0, h⟩ := g9; cases beq_d g0; exact so_vret (Or.inl rfl) hd h
    · have g9 := gd_t h; clear h; obtain ⟨g0, h⟩ := g9; cases beq_d g0; exact so_vret (Or.inr (Or.inl rfl)) hd h
    · have g9 := gd_t h; clear h; obtain ⟨g0, h⟩ := g9; cases beq_d g0; exact so_vret (Or.inr (Or.inr (Or.inl rfl))) hd h
    · have g9 := gd_t h; clear h; obtain ⟨g0, h⟩ := g9; cases beq_d g0; exact so_vret (Or.inr (Or.inr (Or.inr rfl))) hd h
    · exact h.elim
  · exact h.elim
end
/-- what the abstract machine says holds of the machine -/
theorem Ev_sound {G : GG} {b : B3} {k pc : Nat} {lc st : List AV} {σ : Sto} {Q : Po} (h : Ev b k pc lc st σ Q) : WPs G b k pc lc st σ Q := h (WPs G) (fun _ _ _ _ _ _ _ g => vstep_sound g)
