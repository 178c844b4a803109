/-! the predicate is the least one, and unfolds -/
theorem ldi_m {lc : List AV} {i : Nat} {K K' : Int32 → Prop} (f : ∀ x, K x → K' x) (h : ldi lc i K) : ldi lc i K' := by
  unfold ldi at h ⊢
  split at h
  · exact f _ h
  · exact h.elim
theorem ldl_m {lc : List AV} {i : Nat} {K K' : Int64 → Prop} (f : ∀ x, K x → K' x) (h : ldl lc i K) : ldl lc i K' := by
  unfold ldl at h ⊢
  split at h
  · exact f _ h
  · exact h.elim
theorem lda_m {lc : List AV} {i : Nat} {K K' : Option Nat → Prop} (f : ∀ x, K x → K' x) (h : lda lc i K) : lda lc i K' := by
  unfold lda at h ⊢
  split at h
  · exact f _ h
  · exact h.elim
theorem p1i_m {st : List AV} {K K' : Int32 → List AV → Prop} (f : ∀ x r, K x r → K' x r) (h : p1i st K) : p1i st K' := by
  unfold p1i at h ⊢
  split at h
  · exact f _ _ h
  · exact h.elim
theorem p1l_m {st : List AV} {K K' : Int64 → List AV → Prop} (f : ∀ x r, K x r → K' x r) (h : p1l st K) : p1l st K' := by
  unfold p1l at h ⊢
  split at h
  · exact f _ _ h
  · exact h.elim
theorem p1r_m {st : List AV} {K K' : Option Nat → List AV → Prop} (f : ∀ x r, K x r → K' x r) (h : p1r st K) : p1r st K' := by
  unfold p1r at h ⊢
  split at h
  · exact f _ _ h
  · exact h.elim
theorem p1o_m {st : List AV} {K K' : Nat → List AV → Prop} (f : ∀ x r, K x r → K' x r) (h : p1o st K) : p1o st K' := by
  unfold p1o at h ⊢
  split at h
  · exact f _ _ h
  · exact h.elim
theorem jmp_m {pc : Nat} {off : Int} {K K' : Nat → Prop} (f : ∀ t, K t → K' t) (h : jmp pc off K) : jmp pc off K' := by
  unfold jmp at h ⊢
  split at h
  · exact f _ h
  · exact h.elim
theorem imp_m {c A B : Prop} (f : A → B) (g : c → A) : c → B := fun hc => f (g hc)
abbrev Mn (P P' : EvT) : Prop := ∀ (b : B3) (k pc : Nat) (lc st : List AV) (σ : Sto) (Q : Po), P b k pc lc st σ Q → P' b k pc lc st σ Q
section
variable {P P' : EvT}
theorem vback_m (h : Mn P P') {k : Nat} {lc : List AV} {Q : Po} {b' : B3} {pc' k' : Nat} {rest : List AV} {S : Po} : vback P k lc Q b' pc' k' rest S → vback P' k lc Q b' pc' k' rest S := by
  unfold vback
  split <;> intro g
  · exact fun σ' z => h _ _ _ _ _ _ _ (g σ' z)
  · exact fun x σ' z => h _ _ _ _ _ _ _ (g x σ' z)
  · exact fun x σ' z => h _ _ _ _ _ _ _ (g x σ' z)
  · exact fun x σ' z => h _ _ _ _ _ _ _ (g x σ' z)
theorem vdo_m (h : Mn P P') {b : B3} {k pc : Nat} {lc : List AV} {σ : Sto} {Q : Po} {k' : Nat} {vs rest : List AV} : vdo P b k pc lc σ Q k' vs rest → vdo P' b k pc lc σ Q k' vs rest := by
  unfold vdo
  split
  · exact id
  · exact gd_m fun ⟨h1, h2, S, h3, h4⟩ => ⟨h1, h2, S, h _ _ _ _ _ _ _ h3, vback_m h h4⟩
theorem vinv_m (h : Mn P P') {b : B3} {k pc : Nat} {lc st : List AV} {σ : Sto} {Q : Po} {k0 : Nat} {q : Option (Nat × Nat × Nat × Nat)} : vinv P b k pc lc st σ Q k0 q → vinv P' b k pc lc st σ Q k0 q := by
  unfold vinv
  split
  · refine gd_m ?_
    split
    · exact And.imp id (vdo_m h)
    · exact id
  · refine gd_m ?_
    split
    · exact vdo_m h
    · exact id
  · refine gd_m ?_
    split
    · exact vdo_m h
    · exact id
  · refine gd_m ?_
    split
    · exact vdo_m h
    · exact id
  · refine gd_m ?_
    split
    · exact vdo_m h
    · exact id
  · refine gd_m ?_
    split
    · exact id
    · exact p1o_m fun _ _ => gd_m (h _ _ _ _ _ _ _)
  · refine gd_m ?_
    split
    · exact id
    · exact p1i_m fun _ _ => p1i_m fun _ _ => p1o_m fun _ _ => p1i_m fun _ _ => p1o_m fun _ _ => gd_m fun ⟨g1, g2, g3, g4, g5, g6, g7, g8⟩ => ⟨g1, g2, g3, g4, g5, g6, g7, h _ _ _ _ _ _ _ g8⟩
  · refine gd_m ?_
    split
    · exact id
    · exact p1l_m fun _ _ => p1l_m fun _ _ => gd_m (h _ _ _ _ _ _ _)
  · refine gd_m ?_
    split
    · exact id
    · exact p1l_m fun _ _ => p1l_m fun _ _ => gd_m (h _ _ _ _ _ _ _)
  · exact id
theorem vget_m (h : Mn P P') {b : B3} {k pc : Nat} {lc st : List AV} {σ : Sto} {Q : Po} {q : Option (Nat × Nat × Nat × Nat)} : vget P b k pc lc st σ Q q → vget P' b k pc lc st σ Q q := by
  unfold vget
  split <;> first | exact id | exact p1o_m fun _ _ => And.imp id (h _ _ _ _ _ _ _)
theorem vput_m (h : Mn P P') {b : B3} {k pc : Nat} {lc st : List AV} {σ : Sto} {Q : Po} {q : Option (Nat × Nat × Nat × Nat)} : vput P b k pc lc st σ Q q → vput P' b k pc lc st σ Q q := by
  unfold vput
  split
  · exact gd_m (p1i_m fun _ _ => p1o_m fun _ _ => And.imp id (h _ _ _ _ _ _ _))
  · exact gd_m (p1i_m fun _ _ => p1o_m fun _ _ => And.imp id (And.imp id (h _ _ _ _ _ _ _)))
  · exact gd_m (p1l_m fun _ _ => p1o_m fun _ _ => And.imp id (h _ _ _ _ _ _ _))
  · exact gd_m (p1r_m fun _ _ => p1o_m fun _ _ => And.imp id (h _ _ _ _ _ _ _))
  · exact id
theorem vnew_m (h : Mn P P') {b : B3} {k pc : Nat} {lc st : List AV} {σ : Sto} {Q : Po} {n : Nat} {q : Option Nat} : vnew P b k pc lc st σ Q n q → vnew P' b k pc lc st σ Q n q := by
  unfold vnew
  split
  · exact fun ⟨h1, h2, h3, h4, h5⟩ => ⟨h1, h2, h3, h4, h _ _ _ _ _ _ _ h5⟩
  · exact id
theorem vnewa_m (h : Mn P P') {b : B3} {k pc : Nat} {lc st : List AV} {σ : Sto} {Q : Po} {t len : Nat} : vnewa P b k pc lc st σ Q t len → vnewa P' b k pc lc st σ Q t len := by
  unfold vnewa
  exact p1i_m fun _ _ ⟨h1, h2, h3, h4, h5, h6, h7⟩ => ⟨h1, h2, h3, h4, h5, h6, h _ _ _ _ _ _ _ h7⟩
theorem vop_m (h : Mn P P') {b : B3} {k pc : Nat} {lc st : List AV} {σ : Sto} {Q : Po} {len : Nat} {i : Instr} : vop P b k pc lc st σ Q len i → vop P' b k pc lc st σ Q len i := by
  unfold vop
  split
  all_goals first
    | exact id
    | exact gd_m (vget_m h)
    | exact gd_m (vput_m h)
    | exact gd_m (vinv_m h)
    | exact gd_m (vnew_m h)
    | exact gd_m (vnewa_m h)
    | exact gd_m (h _ _ _ _ _ _ _)
    | exact gd_m (ldi_m fun _ => h _ _ _ _ _ _ _)
    | exact gd_m (ldl_m fun _ => h _ _ _ _ _ _ _)
    | exact gd_m (lda_m fun _ => h _ _ _ _ _ _ _)
    | exact gd_m (p1i_m fun _ _ => h _ _ _ _ _ _ _)
    | exact gd_m (p1l_m fun _ _ => h _ _ _ _ _ _ _)
    | exact gd_m (p1r_m fun _ _ => h _ _ _ _ _ _ _)
    | exact gd_m (p1i_m fun _ _ => p1i_m fun _ _ => h _ _ _ _ _ _ _)
    | exact gd_m (p1l_m fun _ _ => p1l_m fun _ _ => h _ _ _ _ _ _ _)
    | exact gd_m (p1i_m fun _ _ => p1l_m fun _ _ => h _ _ _ _ _ _ _)
    | exact gd_m (p1i_m fun _ _ => p1i_m fun _ _ => And.imp id (h _ _ _ _ _ _ _))
    | exact gd_m (p1l_m fun _ _ => p1l_m fun _ _ => And.imp id (h _ _ _ _ _ _ _))
    | exact gd_m (jmp_m fun _ => h _ _ _ _ _ _ _)
    | exact gd_m (p1i_m fun _ _ => jmp_m fun _ => h _ _ _ _ _ _ _)
    | exact gd_m (p1i_m fun _ _ => jmp_m fun _ => And.imp (imp_m (h _ _ _ _ _ _ _)) (imp_m (h _ _ _ _ _ _ _)))
    | exact gd_m (p1i_m fun _ _ => p1i_m fun _ _ => jmp_m fun _ => And.imp (imp_m (h _ _ _ _ _ _ _)) (imp_m (h _ _ _ _ _ _ _)))
    | exact gd_m (p1r_m fun _ _ => jmp_m fun _ => And.imp (imp_m (h _ _ _ _ _ _ _)) (imp_m (h _ _ _ _ _ _ _)))
    | exact gd_m (p1r_m fun _ _ => p1r_m fun _ _ => jmp_m fun _ => And.imp (imp_m (h _ _ _ _ _ _ _)) (imp_m (h _ _ _ _ _ _ _)))
    | exact gd_m (p1i_m fun _ _ => p1o_m fun _ _ => And.imp id (h _ _ _ _ _ _ _))
    | exact gd_m (p1i_m fun _ _ => p1i_m fun _ _ => p1o_m fun _ _ => And.imp id (h _ _ _ _ _ _ _))
    | exact gd_m (p1i_m fun _ _ => p1i_m fun _ _ => p1o_m fun _ _ => And.imp id (And.imp id (h _ _ _ _ _ _ _)))
    | exact gd_m (p1l_m fun _ _ => p1i_m fun _ _ => p1o_m fun _ _ => And.imp id (h _ _ _ _ _ _ _))
    | exact gd_m (p1o_m fun _ _ => p1i_m fun _ _ => p1o_m fun _ _ => And.imp id (And.imp id (h _ _ _ _ _ _ _)))
    | (refine gd_m ?_
       split
       · exact h _ _ _ _ _ _ _
       · exact id)
    | (refine gd_m ?_
       split
       · exact gd_m (h _ _ _ _ _ _ _)
       · exact id)
    | (refine gd_m ?_
       split
       · exact vnewa_m h
       · exact id)
    | exact gd_m (p1o_m fun _ _ => And.imp id (h _ _ _ _ _ _ _))
theorem vstep_m (h : Mn P P') {b : B3} {k pc : Nat} {lc st : List AV} {σ : Sto} {Q : Po} : vstep P b k pc lc st σ Q → vstep P' b k pc lc st σ Q := by
  unfold vstep
  split
  · exact vop_m h
  · exact id
end
theorem Ev_up {b : B3} {k pc : Nat} {lc st : List AV} {σ : Sto} {Q : Po} (h : vstep Ev b k pc lc st σ Q) : Ev b k pc lc st σ Q :=
  fun P hP => hP _ _ _ _ _ _ _ (vstep_m (fun _ _ _ _ _ _ _ g => g P hP) h)
theorem Ev_dn {b : B3} {k pc : Nat} {lc st : List AV} {σ : Sto} {Q : Po} (h : Ev b k pc lc st σ Q) : vstep Ev b k pc lc st σ Q :=
  h (vstep Ev) (fun _ _ _ _ _ _ _ g => vstep_m (fun _ _ _ _ _ _ _ => Ev_up) g)
theorem Ev_eq (b : B3) (k pc : Nat) (lc st : List AV) (σ : Sto) (Q : Po) : Ev b k pc lc st σ Q = vstep Ev b k pc lc st σ Q := propext ⟨Ev_dn, Ev_up⟩
