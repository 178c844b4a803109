/-! no run writes the script's cell -/
def kp (τ σ : Sto) : Prop := gi σ 0 = gi τ 0 ∧ gr σ 0 = gr τ 0 ∧ 1 ≤ sn τ ∧ sn τ ≤ sn σ
def Qk (τ : Sto) (Q : Po) : Po := fun r σ => Q r σ ∧ kp τ σ
def Ek (τ : Sto) : EvT := fun b k pc lc st σ Q => kp τ σ → Ev b k pc lc st σ (Qk τ Q)
theorem kd_0 : (kd 0).1 = 11 := by decide
theorem fld11 {x ci : Nat} {w : Nat × Nat × Nat} (h : alook fldT x = some (ci, w)) : ci ≠ 11 := fun e => by
  have q : ci < 7 := (flAll _ (alook_mem _ _ _ h)).1
  omega
section
variable {τ σ : Sto} {a t : Nat}
theorem up2_0 {α : Type} {g : Nat → Nat → α} {a k : Nat} {v : α} (h : a ≠ 0) : up2 g a k v 0 = g 0 := by
  unfold up2
  rw [if_neg (fun e => h e.symm)]
theorem upr_0 {α : Type} {g : Nat → Nat → α} {a : Nat} {v : Nat → α} (h : a ≠ 0) : upr g a v 0 = g 0 := by
  unfold upr
  rw [if_neg (fun e => h e.symm)]
theorem nzO (o : okO σ a t) (ht : t ≠ 11) : a ≠ 0 := fun e => ht (by rw [← o.2, e]; exact kd_0)
theorem nzA {i : Int32} (o : okA σ a t i) (ht : t ≠ 11) : a ≠ 0 := fun e => ht (by rw [← o.2.1, e]; exact kd_0)
theorem kp.wi (h : kp τ σ) (ha : a ≠ 0) (k : Nat) (x : Int32) : kp τ (si σ a k x) := ⟨(up2_0 ha).trans h.1, h.2.1, h.2.2⟩
theorem kp.wl (h : kp τ σ) (a k : Nat) (x : Int64) : kp τ (sl σ a k x) := h
theorem kp.wr (h : kp τ σ) (ha : a ≠ 0) (k : Nat) (x : Option Nat) : kp τ (sr σ a k x) := ⟨h.1, (up2_0 ha).trans h.2.1, h.2.2⟩
theorem kp.ws (h : kp τ σ) (a : Nat) (f : Nat → Int64) : kp τ (slr σ a f) := h
theorem kp.al (h : kp τ σ) : kp τ (alo σ) := by
  have e : σ.1 ≠ 0 := fun e => absurd (Nat.le_trans h.2.2.1 h.2.2.2) (by show ¬ 1 ≤ σ.1; omega)
  exact ⟨(upr_0 e).trans h.1, (upr_0 e).trans h.2.1, h.2.2.1, Nat.le_succ_of_le h.2.2.2⟩
end
section
variable {τ σ : Sto} {b : B3} {k pc : Nat} {lc st : List AV} {Q : Po}
theorem vback_k {b' : B3} {pc' k' : Nat} {rest : List AV} {S : Po} : vback (Ek τ) k lc Q b' pc' k' rest S → vback Ev k lc (Qk τ Q) b' pc' k' rest (Qk τ S) := by
  unfold vback
  split <;> intro g
  · exact fun σ' z => g σ' z.1 z.2
  · exact fun x σ' z => g x σ' z.1 z.2
  · exact fun x σ' z => g x σ' z.1 z.2
  · exact fun x σ' z => g x σ' z.1 z.2
theorem vdo_k (h : kp τ σ) {k' : Nat} {vs rest : List AV} : vdo (Ek τ) b k pc lc σ Q k' vs rest → vdo Ev b k pc lc σ (Qk τ Q) k' vs rest := by
  unfold vdo
  split
  · exact id
  · exact gd_m fun ⟨h1, h2, S, h3, h4⟩ => ⟨h1, h2, Qk τ S, h3 h, vback_k h4⟩
theorem vinv_k (h : kp τ σ) {k0 : Nat} {q : Option (Nat × Nat × Nat × Nat)} : vinv (Ek τ) b k pc lc st σ Q k0 q → vinv Ev b k pc lc st σ (Qk τ Q) k0 q := by
  unfold vinv
  split
  · refine gd_m ?_
    split
    · exact And.imp id (vdo_k h)
    · exact id
  · refine gd_m ?_
    split
    · exact vdo_k h
    · exact id
  · refine gd_m ?_
    split
    · exact vdo_k h
    · exact id
  · refine gd_m ?_
    split
    · exact vdo_k h
    · exact id
  · refine gd_m ?_
    split
    · exact vdo_k h
    · exact id
  · refine gd_m ?_
    split
    · exact id
    · exact p1o_m fun _ _ => gd_m fun g => g h
  · refine gd_m ?_
    split
    · exact id
    · exact p1i_m fun _ _ => p1i_m fun _ _ => p1o_m fun _ _ => p1i_m fun _ _ => p1o_m fun _ _ => gd_m fun ⟨g1, g2, g3, g4, g5, g6, g7, g8⟩ => ⟨g1, g2, g3, g4, g5, g6, g7, g8 (h.ws _ _)⟩
  · refine gd_m ?_
    split
    · exact id
    · exact p1l_m fun _ _ => p1l_m fun _ _ => gd_m fun g => g h
  · refine gd_m ?_
    split
    · exact id
    · exact p1l_m fun _ _ => p1l_m fun _ _ => gd_m fun g => g h
  · exact id
theorem vget_k (h : kp τ σ) {q : Option (Nat × Nat × Nat × Nat)} : vget (Ek τ) b k pc lc st σ Q q → vget Ev b k pc lc st σ (Qk τ Q) q := by
  unfold vget
  split <;> first | exact id | exact p1o_m fun _ _ => And.imp id fun g => g h
theorem vput_k (h : kp τ σ) {q : Option (Nat × Nat × Nat × Nat)} (hq : ∀ ci w, q = some (ci, w) → ci ≠ 11) : vput (Ek τ) b k pc lc st σ Q q → vput Ev b k pc lc st σ (Qk τ Q) q := by
  unfold vput
  split
  · exact gd_m (p1i_m fun _ _ => p1o_m fun _ _ ⟨o, g⟩ => ⟨o, g (h.wi (nzO o (hq _ _ rfl)) _ _)⟩)
  · exact gd_m (p1i_m fun _ _ => p1o_m fun _ _ ⟨o, e, g⟩ => ⟨o, e, g (h.wi (nzO o (hq _ _ rfl)) _ _)⟩)
  · exact gd_m (p1l_m fun _ _ => p1o_m fun _ _ ⟨o, g⟩ => ⟨o, g (h.wl _ _ _)⟩)
  · exact gd_m (p1r_m fun _ _ => p1o_m fun _ _ ⟨o, g⟩ => ⟨o, g (h.wr (nzO o (hq _ _ rfl)) _ _)⟩)
  · exact id
theorem vret_k (h : kp τ σ) {kk : Nat} {i : Instr} : vret st σ Q kk i → vret st σ (Qk τ Q) kk i := by
  unfold vret
  split
  · split
    · exact fun g => ⟨g, h⟩
    · exact id
  · split
    · exact fun g => ⟨g, h⟩
    · exact id
  · split
    · exact fun g => ⟨g.1, g.2, h⟩
    · exact id
  · split
    · exact fun g => ⟨g, h⟩
    · exact id
  · split
    · exact fun g => ⟨g, h⟩
    · exact id
  · exact id
theorem vnew_k (h : kp τ σ) {n : Nat} {q : Option Nat} : vnew (Ek τ) b k pc lc st σ Q n q → vnew Ev b k pc lc st σ (Qk τ Q) n q := by
  unfold vnew
  split
  · exact fun ⟨h1, h2, h3, h4, h5⟩ => ⟨h1, h2, h3, h4, h5 h.al⟩
  · exact id
theorem vnewa_k (h : kp τ σ) {t len : Nat} : vnewa (Ek τ) b k pc lc st σ Q t len → vnewa Ev b k pc lc st σ (Qk τ Q) t len := by
  unfold vnewa
  exact p1i_m fun _ _ ⟨h1, h2, h3, h4, h5, h6, h7⟩ => ⟨h1, h2, h3, h4, h5, h6, h7 h.al⟩
theorem vop_k (h : kp τ σ) {len : Nat} {i : Instr} : vop (Ek τ) b k pc lc st σ Q len i → vop Ev b k pc lc st σ (Qk τ Q) len i := by
  unfold vop
  split
  all_goals first
    | exact id
    | exact gd_m (vget_k h)
    | exact gd_m (vput_k h fun ci w e => fld11 e)
    | exact gd_m (vinv_k h)
    | exact gd_m (vnew_k h)
    | exact gd_m (vnewa_k h)
    | exact gd_m (vret_k h)
    | exact gd_m fun g => g h
    | exact gd_m (ldi_m fun _ g => g h)
    | exact gd_m (ldl_m fun _ g => g h)
    | exact gd_m (lda_m fun _ g => g h)
    | exact gd_m (p1i_m fun _ _ g => g h)
    | exact gd_m (p1l_m fun _ _ g => g h)
    | exact gd_m (p1r_m fun _ _ g => g h)
    | exact gd_m (p1i_m fun _ _ => p1i_m fun _ _ g => g h)
    | exact gd_m (p1l_m fun _ _ => p1l_m fun _ _ g => g h)
    | exact gd_m (p1i_m fun _ _ => p1l_m fun _ _ g => g h)
    | exact gd_m (p1i_m fun _ _ => p1i_m fun _ _ => And.imp id fun g => g h)
    | exact gd_m (p1l_m fun _ _ => p1l_m fun _ _ => And.imp id fun g => g h)
    | exact gd_m (jmp_m fun _ g => g h)
    | exact gd_m (p1i_m fun _ _ => jmp_m fun _ g => g h)
    | exact gd_m (p1i_m fun _ _ => jmp_m fun _ => And.imp (imp_m fun g => g h) (imp_m fun g => g h))
    | exact gd_m (p1i_m fun _ _ => p1i_m fun _ _ => jmp_m fun _ => And.imp (imp_m fun g => g h) (imp_m fun g => g h))
    | exact gd_m (p1r_m fun _ _ => jmp_m fun _ => And.imp (imp_m fun g => g h) (imp_m fun g => g h))
    | exact gd_m (p1r_m fun _ _ => p1r_m fun _ _ => jmp_m fun _ => And.imp (imp_m fun g => g h) (imp_m fun g => g h))
    | exact gd_m (p1i_m fun _ _ => p1o_m fun _ _ => And.imp id fun g => g h)
    | exact gd_m (p1i_m fun _ _ => p1i_m fun _ _ => p1o_m fun _ _ ⟨o, g⟩ => ⟨o, g (h.wi (nzA o (by decide)) _ _)⟩)
    | exact gd_m (p1i_m fun _ _ => p1i_m fun _ _ => p1o_m fun _ _ ⟨o, e, g⟩ => ⟨o, e, g (h.wi (nzA o (by decide)) _ _)⟩)
    | exact gd_m (p1l_m fun _ _ => p1i_m fun _ _ => p1o_m fun _ _ ⟨o, g⟩ => ⟨o, g (h.wl _ _ _)⟩)
    | exact gd_m (p1o_m fun _ _ => p1i_m fun _ _ => p1o_m fun _ _ ⟨o, e, g⟩ => ⟨o, e, g (h.wr (nzA o (by decide)) _ _)⟩)
    | (refine gd_m ?_
       split
       · exact fun g => g h
       · exact id)
    | (refine gd_m ?_
       split
       · exact gd_m fun g => g h
       · exact id)
    | (refine gd_m ?_
       split
       · exact vnewa_k h
       · exact id)
    | exact gd_m (p1o_m fun _ _ => And.imp id fun g => g h)
theorem Ev_k (τ : Sto) (h : kp τ σ) (g : Ev b k pc lc st σ Q) : Ev b k pc lc st σ (Qk τ Q) := by
  refine g (Ek τ) (fun b k pc lc st σ Q q hσ => Ev_up ?_) h
  unfold vstep at q ⊢
  split at q
  · rename_i e
    exact vop_k hσ q
  · exact q.elim
theorem CI_k {d : Nat} {vs : List AV} {K : Int32 → Sto → Prop} (h : 1 ≤ sn σ) (g : CI d k vs σ K) : CI d k vs σ (fun x σ' => K x σ' ∧ kp σ σ') := by
  obtain ⟨S, h1, h2⟩ := g
  exact ⟨_, Ev_k σ ⟨rfl, rfl, h, Nat.le_refl _⟩ h1, fun x σ' q => ⟨h2 x σ' q.1, q.2⟩⟩
theorem CL_k {d : Nat} {vs : List AV} {K : Int64 → Sto → Prop} (h : 1 ≤ sn σ) (g : CL d k vs σ K) : CL d k vs σ (fun x σ' => K x σ' ∧ kp σ σ') := by
  obtain ⟨S, h1, h2⟩ := g
  exact ⟨_, Ev_k σ ⟨rfl, rfl, h, Nat.le_refl _⟩ h1, fun x σ' q => ⟨h2 x σ' q.1, q.2⟩⟩
end
