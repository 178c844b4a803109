/-! one trace of the class is written anew -/
theorem XI.chg {σ σ' : Sto} {L : Nat → List Nat} {t : Nat} {l' : List Nat} (hI : XI σ L) (hX : XB σ') (hsn : sn σ ≤ sn σ') (hT : Tr σ' (28 + 2 * t) l') (hsz : gi σ' (28 + 2 * t) 1 = nI l'.length) (hok : ∀ a, a ∈ l' → okR (rwX σ' (nI t) a)) (hdis : ∀ u, u < 20 → u ≠ t → ∀ a, a ∈ L u → a ∉ l') (hk : gi σ' 7 6 = 0) (hi : ∀ u, u < 20 → u ≠ t → ∀ a, a ∈ L u → gi σ' a = gi σ a ∧ gr σ' a = gr σ a ∧ gl σ' a = gl σ a) (hh : ∀ u, u < 20 → u ≠ t → gi σ' (28 + 2 * u) 1 = gi σ (28 + 2 * u) 1 ∧ gi σ' (28 + 2 * u) 2 = gi σ (28 + 2 * u) 2 ∧ gr σ' (28 + 2 * u) 0 = gr σ (28 + 2 * u) 0) : XI σ' (up1 L t l') := by
  refine ⟨hX, fun u hu => ?_, fun u w hu hw huw a ha => ?_, Or.inl hk⟩
  · by_cases e : u = t
    · subst e
      rw [up1_s]
      exact ⟨hT, hsz, hok⟩
    · rw [up1_n e]
      obtain ⟨q1, q2, q3, q4, q5, q6⟩ := hI.t hu
      obtain ⟨e1, e2, e3⟩ := hh u hu e
      have hg := hI.g hu
      have hf : ∀ x, (L u).find? (nuX σ' x) = (L u).find? (nuX σ x) := fun x => find_congr (fun a ha => by unfold nuX; rw [(hi u hu e a ha).1])
      have huu : ∀ a, a ∈ L u → uX σ' (L u) a = uX σ (L u) a := fun a ha => by
        rw [uX_eq (hg a ha), uX_eq (hg a ha), hf, (hi u hu e a ha).1]
      have hcl : ∀ (f a d : Nat), a ∈ L u → clI (uX σ' (L u)) f a d = clI (uX σ (L u)) f a d := by
        intro f
        induction f with
        | zero => intro a d _; rfl
        | succ f ih =>
          intro a d ha
          unfold clI
          rw [huu a ha]
          cases hc : uX σ (L u) a with
          | none => rfl
          | some b => exact ih b (d + 1) (uX_mem hc)
      have hro : ∀ a, a ∈ L u → roI (uX σ' (L u)) a = roI (uX σ (L u)) a ∧ deI (uX σ' (L u)) a = deI (uX σ (L u)) a := fun a ha => by
        have := hcl 31 a 0 ha
        unfold roI deI
        rw [this]
        exact ⟨rfl, rfl⟩
      refine ⟨⟨⟨Nat.lt_of_lt_of_le q1.1 hsn, q1.2⟩, q2, by rw [e3]; exact q3, lkt_of hsn (fun a ha => by rw [(hi u hu e a ha).2.1]) q4, q5, ?_⟩, by rw [e1]; exact hI.n hu, fun a ha => ?_⟩
      · rw [e2]
        refine q6.imp id (fun q => ⟨q.1, fun a ha => ?_⟩)
        obtain ⟨s1, s2, s3⟩ := q.2 a ha
        rw [(hi u hu e a ha).2.1, (hi u hu e a ha).1, huu a ha, (hro a ha).1, (hro a ha).2]
        exact ⟨s1, s2, s3⟩
      · have : rwX σ' (nI u) a = rwX σ (nI u) a := by
          unfold rwX
          rw [(hi u hu e a ha).1, (hi u hu e a ha).2.2]
        rw [this]
        exact hI.r hu a ha
  · by_cases e : u = t
    · subst e
      rw [up1_s] at ha
      rw [up1_n (fun q => huw q.symm)]
      exact fun q => hdis w hw (fun q => huw q.symm) a q ha
    · rw [up1_n e] at ha
      by_cases e2 : w = t
      · subst e2
        rw [up1_s]
        exact hdis u hu e a ha
      · rw [up1_n e2]
        exact hI.2.2.1 u w hu hw huw a ha
theorem gnL_app (D F : List Rw) : gnL (gnL (fun _ => 0) D) F = gnL (fun _ => 0) (D ++ F) := by
  funext i
  unfold gnL
  rw [List.countP_append]
  omega
theorem gfL_app (D F : List Rw) : gfL (gfL (fun _ => 0) D) F = gfL (fun _ => 0) (D ++ F) := by
  funext i
  unfold gfL
  rw [List.countP_append]
  omega
section
variable {N : Nat} {xs : Nat → Int32} {σ σ' : Sto} {n d : Nat} {L : Nat → List Nat} {S : Nat} {D : List Rw} {ol : List Nat} {pth : Nat → List Int32}
theorem op_drop (h : INV N xs σ n L S D ol pth) (hn : n < 64) (x : Int32) : CI (d + 40) 82 [aR (some 1), aI x] σ (fun a σ1 => CI (d + 40) 156 [aR (some 68), aI x] σ1 (fun b σ2 => a = b ∧ IV N xs σ2 (n + 1))) := by
  obtain ⟨⟨i1, i2, i3⟩, i4, i5, i6, i7, i8, i9, i10⟩ := id h
  obtain ⟨t1, t2, t3, t4, t5, t6⟩ := id i4
  refine X_drop i1 (fun c => ?_) (fun t ht e => ?_)
  · exact M_drop i2 i3.1 t2 t3 (fun _ => ⟨rfl, h.iv hn⟩) (fun c1 c2 => by rcases c with q | q; exact absurd q c1; exact absurd q c2)
  · subst e
    have gT : ∀ a k, ¬ (a = 28 + 2 * t ∧ (k = 1 ∨ k = 2)) → ¬ (a = 1 ∧ (k = 9 ∨ k = 12)) → ¬ (a = 7 ∧ k = 6) → gi (drX σ t (L t).length) a k = gi σ a k := fun a k e1 e2 e3 => by
      unfold drX
      rw [gi_si_k, if_neg e3, gi_si_k, if_neg (by omega), gi_si_k, if_neg (by omega), gi_si_k, if_neg (by omega), gi_si_k, if_neg (by omega), gi_sr_r]
    have em : rwM (drX σ t (L t).length) = rwM σ := by
      funext k
      unfold rwM
      rw [gT 69 k (by omega) (by omega) (by omega), gT 70 k (by omega) (by omega) (by omega), gT 71 k (by omega) (by omega) (by omega), gT 72 k (by omega) (by omega) (by omega), gT 73 k (by omega) (by omega) (by omega), gT 74 k (by omega) (by omega) (by omega), gT 75 k (by omega) (by omega) (by omega)]
      rfl
    have rT' : ∀ a k, ¬ (a = 28 + 2 * t ∧ k = 0) → gr (drX σ t (L t).length) a k = gr σ a k := fun a k e => by
      show gr (sr σ (28 + 2 * t) 0 none) a k = _
      rw [gr_sr_k, if_neg e]
    have hM : MB (drX σ t (L t).length) S := MB_of (σ := σ) (Nat.le_refl _) (gT 68 0 (by omega) (by omega) (by omega)) (funext fun k => rT' 68 k (by omega)) i2
    have hlen := (i3.2.2.1 t ht).length_eq
    rw [List.length_map] at hlen
    refine M_drop hM (fun k hk => by rw [em]; exact i3.1 k hk) (fun i hi => by rw [gT 101 i (by omega) (by omega) (by omega)]; exact t2 i hi) (fun i hi => by rw [gT 102 i (by omega) (by omega) (by omega)]; exact t3 i hi) (fun q => ?_) (fun _ _ σ1 j hj hs hr hG hF => ?_)
    · rcases q with q | q
      · exact absurd q (in20 ht).1
      · exact absurd q (in20 ht).2
    · rw [rws_of em] at hj hr hG hF ⊢
      refine ⟨by rw [← hlen], ?_⟩
      rw [gnL_app] at hG
      rw [gfL_app] at hF
      have gF : ∀ a k, ¬ (69 ≤ a ∧ a ≤ 75) → a ≠ 101 → a ≠ 102 → ¬ (a = 68 ∧ (k = 0 ∨ k = 15)) → ¬ (a = 28 + 2 * t ∧ (k = 1 ∨ k = 2)) → ¬ (a = 1 ∧ (k = 9 ∨ k = 12)) → ¬ (a = 7 ∧ k = 6) → gi (si (si σ1 68 0 (nI j)) 68 15 (gi (drX σ t (L t).length) 68 15 + nI ((rws σ 0 S).filter (isT (nI t))).length)) a k = gi σ a k := fun a k e1 e2 e3 e4 e5 e6 e7 => by
        rw [gi_si_k, if_neg (by omega), gi_si_k, if_neg (by omega), hs.2.2.1 a e1 e2 e3]
        exact gT a k e5 e6 e7
      have gO : ∀ a k, a ≠ 68 → gi (si (si σ1 68 0 (nI j)) 68 15 (gi (drX σ t (L t).length) 68 15 + nI ((rws σ 0 S).filter (isT (nI t))).length)) a k = gi σ1 a k := fun a k e => by
        rw [gi_si_k, if_neg (by omega), gi_si_k, if_neg (by omega)]
      have lF : ∀ a, a ≠ 76 → a ≠ 77 → gl (si (si σ1 68 0 (nI j)) 68 15 (gi (drX σ t (L t).length) 68 15 + nI ((rws σ 0 S).filter (isT (nI t))).length)) a = gl σ a := fun a e1 e2 => by
        rw [gl_si_r, gl_si_r, hs.2.2.2 a e1 e2]; rfl
      have rF : ∀ a k, ¬ (a = 28 + 2 * t ∧ k = 0) → gr (si (si σ1 68 0 (nI j)) 68 15 (gi (drX σ t (L t).length) 68 15 + nI ((rws σ 0 S).filter (isT (nI t))).length)) a k = gr σ a k := fun a k e => by
        rw [gr_si_r, gr_si_r, hs.2.1]; exact rT' a k e
      have rZ : gr (si (si σ1 68 0 (nI j)) 68 15 (gi (drX σ t (L t).length) 68 15 + nI ((rws σ 0 S).filter (isT (nI t))).length)) (28 + 2 * t) 0 = none := by
        rw [gr_si_r, gr_si_r, hs.2.1]
        show gr (sr σ (28 + 2 * t) 0 none) (28 + 2 * t) 0 = none
        rw [gr_sr_k, if_pos ⟨rfl, rfl⟩]
      have dF : ∀ a k v, a ≠ 68 → ¬ (69 ≤ a ∧ a ≤ 75) → a ≠ 101 → a ≠ 102 → gi (drX σ t (L t).length) a k = v → gi (si (si σ1 68 0 (nI j)) 68 15 (gi (drX σ t (L t).length) 68 15 + nI ((rws σ 0 S).filter (isT (nI t))).length)) a k = v := fun a k v e0 e1 e2 e3 q => by
        rw [gO a k e0, hs.2.2.1 a e1 e2 e3]; exact q
      have snF : sn (si (si σ1 68 0 (nI j)) 68 15 (gi (drX σ t (L t).length) 68 15 + nI ((rws σ 0 S).filter (isT (nI t))).length)) = sn σ := hs.1
      have f15 : gi (si (si σ1 68 0 (nI j)) 68 15 (gi (drX σ t (L t).length) 68 15 + nI ((rws σ 0 S).filter (isT (nI t))).length)) 68 15 = gi σ 68 15 + nI (L t).length := by
        rw [gi_si_k, if_pos ⟨rfl, rfl⟩, gT 68 15 (by omega) (by omega) (by omega), hlen]
      have f0 : gi (si (si σ1 68 0 (nI j)) 68 15 (gi (drX σ t (L t).length) 68 15 + nI ((rws σ 0 S).filter (isT (nI t))).length)) 68 0 = nI j := by
        rw [gi_si_k, if_neg (by omega), gi_si_k, if_pos ⟨rfl, rfl⟩]
      have emf : ∀ k, rwM (si (si σ1 68 0 (nI j)) 68 15 (gi (drX σ t (L t).length) 68 15 + nI ((rws σ 0 S).filter (isT (nI t))).length)) k = rwM σ1 k := fun k => by
        unfold rwM
        rw [gO 69 k (by omega), gO 70 k (by omega), gO 71 k (by omega), gO 72 k (by omega), gO 73 k (by omega), gO 74 k (by omega), gO 75 k (by omega)]
        rfl
      have d9 : gi (drX σ t (L t).length) 1 9 = gi σ 1 9 - nI (L t).length := by
        unfold drX
        rw [gi_si_k, if_neg (by omega), gi_si_k, if_neg (by omega), gi_si_k, if_pos ⟨rfl, rfl⟩]
      have d12 : gi (drX σ t (L t).length) 1 12 = gi σ 1 12 + nI (L t).length := by
        unfold drX
        rw [gi_si_k, if_neg (by omega), gi_si_k, if_pos ⟨rfl, rfl⟩]
      have dt1 : gi (drX σ t (L t).length) (28 + 2 * t) 1 = 0 := by
        unfold drX
        rw [gi_si_k, if_neg (by omega), gi_si_k, if_neg (by omega), gi_si_k, if_neg (by omega), gi_si_k, if_neg (by omega), gi_si_k, if_pos ⟨rfl, rfl⟩]
      have dt2 : gi (drX σ t (L t).length) (28 + 2 * t) 2 = 1 := by
        unfold drX
        rw [gi_si_k, if_neg (by omega), gi_si_k, if_neg (by omega), gi_si_k, if_neg (by omega), gi_si_k, if_pos ⟨rfl, rfl⟩]
      have d76 : gi (drX σ t (L t).length) 7 6 = 0 := by
        unfold drX
        rw [gi_si_k, if_pos ⟨rfl, rfl⟩]
      generalize si (si σ1 68 0 (nI j)) 68 15 (gi (drX σ t (L t).length) 68 15 + nI ((rws σ 0 S).filter (isT (nI t))).length) = ρ at *
      have erw : rws ρ 0 j = (rws σ 0 S).filter (fun r => ! isT (nI t) r) := by
        rw [rws_of (funext emf)]; exact hr
      have hg : ∀ u, u < 20 → ∀ a, a ∈ L u → 103 ≤ a := fun u hu => i1.g hu
      have hperm : (((rws σ 0 S).filter (isT (nI t))) ++ ((rws σ 0 S).filter (fun r => ! isT (nI t) r))).Perm (rws σ 0 S) := List.filter_append_perm _ _
      have hX : XB ρ := XB_of (Nat.le_of_eq snF.symm) (fun a k ha hk => rF a k (by omega)) i1.xb
      refine ⟨up1 L t [], j, D ++ (rws σ 0 S).filter (isT (nI t)), ol, pth, ⟨?_, ?_, ?_⟩, ?_, ?_, ?_, ?_, ?_, ?_, ?_, by omega⟩
      · refine i1.chg hX (Nat.le_of_eq snF.symm) ⟨hX.oT ht, by omega, by rw [rZ]; rfl, trivial, List.nodup_nil, Or.inr ⟨dF _ _ _ (by omega) (by omega) (by omega) (by omega) dt2, fun a ha => by cases ha⟩⟩ (dF _ _ _ (by omega) (by omega) (by omega) (by omega) dt1) (fun a ha => by cases ha) (fun u hu hne a ha => List.not_mem_nil) (dF _ _ _ (by omega) (by omega) (by omega) (by omega) d76) (fun u hu hne a ha => ?_) (fun u hu hne => ⟨gF _ _ (by omega) (by omega) (by omega) (by omega) (by omega) (by omega) (by omega), gF _ _ (by omega) (by omega) (by omega) (by omega) (by omega) (by omega) (by omega), rF _ _ (by omega)⟩)
        have := hg u hu a ha
        exact ⟨funext fun k => gF a k (by omega) (by omega) (by omega) (by omega) (by omega) (by omega) (by omega), funext fun k => rF a k (by omega), lF a (by omega) (by omega)⟩
      · obtain ⟨b1, b2, b3, b4⟩ := i2
        refine ⟨by rw [snF]; exact b1, by omega, f0, ?_⟩
        have : gr ρ 68 = gr σ 68 := funext fun k => rF 68 k (by omega)
        rw [this]
        exact b4
      · refine ⟨fun k hk => ?_, ?_, fun u hu => ?_, fun u hu => ?_⟩
        · have : rwM ρ k ∈ rws ρ 0 j := rws_mem.mpr ⟨k, hk, rfl⟩
          rw [erw, List.mem_filter] at this
          exact h.rm _ this.1
        · rw [erw]
          exact i3.2.1.sublist (List.filter_sublist.map kyR)
        · rw [erw, List.filter_filter]
          by_cases e : u = t
          · rw [e, up1_s]
            have : (rws σ 0 S).filter (fun r => isT (nI t) r && ! isT (nI t) r) = [] := by
              rw [List.filter_eq_nil_iff]; intro r _; simp
            rw [this]
            exact List.Perm.refl _
          · rw [up1_n e]
            have e1 : (rws σ 0 S).filter (fun r => isT (nI u) r && ! isT (nI t) r) = (rws σ 0 S).filter (isT (nI u)) := List.filter_congr (fun r _ => by
              unfold isT
              by_cases q : rT r = nI u
              · have this : ¬ nI u = nI t := by rw [nI_eq (by omega) (by omega)]; exact e
                simp [q, this]
              · simp [q])
            have e2 : (L u).map (rwX ρ (nI u)) = (L u).map (rwX σ (nI u)) := List.map_congr_left (fun a ha => by
              have := hg u hu a ha
              unfold rwX
              rw [show gi ρ a = gi σ a from funext fun k => gF a k (by omega) (by omega) (by omega) (by omega) (by omega) (by omega) (by omega), lF a (by omega) (by omega)])
            rw [e1, e2]
            exact i3.2.2.1 u hu
        · by_cases e : u = t
          · rw [e, up1_s]; exact ⟨List.Pairwise.nil, by simp⟩
          · rw [up1_n e]
            refine ⟨?_, (i3.2.2.2 u hu).2⟩
            refine List.Pairwise.imp_of_mem (fun {a b} ha hb q => ?_) (i3.2.2.2 u hu).1
            have ga := hg u hu a ha
            have gb := hg u hu b hb
            unfold ahX rwX at q ⊢
            rw [show gi ρ a = gi σ a from funext fun k => gF a k (by omega) (by omega) (by omega) (by omega) (by omega) (by omega) (by omega), lF a (by omega) (by omega), show gi ρ b = gi σ b from funext fun k => gF b k (by omega) (by omega) (by omega) (by omega) (by omega) (by omega) (by omega), lF b (by omega) (by omega)]
            exact q
      · have tot : ∀ p : Rw → Bool, ((D ++ (rws σ 0 S).filter (isT (nI t))) ++ rws ρ 0 j).countP p = (D ++ rws σ 0 S).countP p := fun p => by
          have e := hperm.countP_eq p
          rw [List.countP_append] at e
          rw [erw, List.append_assoc, List.countP_append, List.countP_append, List.countP_append, e]
        refine ⟨fun r hr => ?_, fun i hi => by rw [gO 101 i (by omega)]; exact hG i hi, fun i hi => by rw [gO 102 i (by omega)]; exact hF i hi, fun p hp => ?_, fun p hp => ?_, fun p k hp hk => ?_⟩
        · rcases List.mem_append.mp hr with q | q
          · exact t1 r q
          · exact h.rm r (List.mem_filter.mp q).1
        · rw [tot, gF 4 p (by omega) (by omega) (by omega) (by omega) (by omega) (by omega) (by omega)]; exact t4 p hp
        · rw [tot, gF 5 p (by omega) (by omega) (by omega) (by omega) (by omega) (by omega) (by omega)]; exact t5 p hp
        · rw [tot, gF 6 _ (by omega) (by omega) (by omega) (by omega) (by omega) (by omega) (by omega)]; exact t6 p k hp hk
      · exact CKs_of (fun a ha => lF a (by omega) (by omega)) (fun a ha => funext fun k => gF a k (by omega) (by omega) (by omega) (by omega) (by omega) (by omega) (by omega)) (gF 7 7 (by omega) (by omega) (by omega) (by omega) (by omega) (by omega) (by omega)) (gF 1 8 (by omega) (by omega) (by omega) (by omega) (by omega) (by omega) (by omega)) (gF 68 38 (by omega) (by omega) (by omega) (by omega) (by omega) (by omega) (by omega)) i5
      · exact CS_of (fun u k hu hk => gF _ k (by omega) (by omega) (by omega) (by omega) (by omega) (by omega) (by omega)) (fun u hu => funext fun k => gF _ k (by omega) (by omega) (by omega) (by omega) (by omega) (by omega) (by omega)) (fun a ha => funext fun k => gF a k (by omega) (by omega) (by omega) (by omega) (by omega) (by omega) (by omega)) (gF 68 42 (by omega) (by omega) (by omega) (by omega) (by omega) (by omega) (by omega)) (gF 1 15 (by omega) (by omega) (by omega) (by omega) (by omega) (by omega) (by omega)) (gF 1 7 (by omega) (by omega) (by omega) (by omega) (by omega) (by omega) (by omega)) i6
      · obtain ⟨q1, q2, q3, q4, q5, q6⟩ := i7
        refine ⟨?_, ?_, ?_, ?_, ?_, ?_⟩
        · rw [dF 1 9 _ (by omega) (by omega) (by omega) (by omega) d9, q1, pk_sub (by omega)]
          congr 1
          omega
        · rw [gF 1 10 (by omega) (by omega) (by omega) (by omega) (by omega) (by omega) (by omega), gF 68 13 (by omega) (by omega) (by omega) (by omega) (by omega) (by omega) (by omega)]; exact q2
        · rw [gF 1 11 (by omega) (by omega) (by omega) (by omega) (by omega) (by omega) (by omega), gF 68 14 (by omega) (by omega) (by omega) (by omega) (by omega) (by omega) (by omega)]; exact q3
        · rw [dF 1 12 _ (by omega) (by omega) (by omega) (by omega) d12, f15, q4]
        · rw [gF 1 13 (by omega) (by omega) (by omega) (by omega) (by omega) (by omega) (by omega), gF 68 16 (by omega) (by omega) (by omega) (by omega) (by omega) (by omega) (by omega)]; exact q5
        · rw [gF 1 14 (by omega) (by omega) (by omega) (by omega) (by omega) (by omega) (by omega), gF 68 17 (by omega) (by omega) (by omega) (by omega) (by omega) (by omega) (by omega)]; exact q6
      · exact TW_of (gF 14 4 (by omega) (by omega) (by omega) (by omega) (by omega) (by omega) (by omega)) (fun a ha => funext fun k => gF a k (by omega) (by omega) (by omega) (by omega) (by omega) (by omega) (by omega)) (gF 68 33 (by omega) (by omega) (by omega) (by omega) (by omega) (by omega) (by omega)) (fun a ha => lF a (by omega) (by omega)) i8
      · exact SC_of (rF 0 0 (by omega)) (funext fun k => gF 0 k (by omega) (by omega) (by omega) (by omega) (by omega) (by omega) (by omega)) i9
      · rw [List.length_append]
        omega
end
