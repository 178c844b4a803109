/-! both: report, whole -/
theorem stM_gi {σ : Sto} {k : Nat} {r : Rw} {a : Nat} (h : ¬ (69 ≤ a ∧ a ≤ 75)) : gi (stM σ k r) a = gi σ a := by
  unfold stM
  rw [gi_sl_r, gi_sl_r, gi_si_r, if_neg (by omega), gi_si_r, if_neg (by omega), gi_si_r, if_neg (by omega), gi_si_r, if_neg (by omega), gi_si_r, if_neg (by omega), gi_si_r, if_neg (by omega), gi_si_r, if_neg (by omega)]
theorem stM_gl {σ : Sto} {k : Nat} {r : Rw} {a : Nat} (h1 : a ≠ 76) (h2 : a ≠ 77) : gl (stM σ k r) a = gl σ a := by
  unfold stM
  rw [gl_sl_r, if_neg h2, gl_sl_r, if_neg h1]
  rfl
theorem rws_congr {σ σ' : Sto} : ∀ (n k : Nat), (∀ j, j < k + n → rwM σ' j = rwM σ j) → rws σ' k n = rws σ k n
  | 0, _, _ => rfl
  | n + 1, k, h => by rw [rws, rws, h k (by omega), rws_congr n (k + 1) (fun j hj => h j (by omega))]
theorem cntD {D R' Z : List Rw} {r : Rw} (h : R'.Perm (r :: Z)) (P : Rw → Bool) : (D ++ R').countP P = D.countP P + Z.countP P + (if P r then 1 else 0) := by
  rw [List.countP_append, h.countP_eq, List.countP_cons]
  omega
theorem nI_p (a : Nat) (b : Bool) : nI (a + if b then 1 else 0) = nI a + (if b then 1 else 0) := by
  cases b with
  | true => simp only [if_true]; rw [nI_1]
  | false => simp only [Bool.false_eq_true, if_false, Nat.add_zero]; rw [Int32.add_zero]
theorem nI_q (a : Nat) (b : Bool) : nI (a + if b then 1 else 0) + (if b then -1 else 0) = nI a := by
  cases b with
  | true => simp only [if_true]; exact pk_m1 a
  | false => simp only [Bool.false_eq_true, if_false, Nat.add_zero]; rw [Int32.add_zero]
theorem ifd {p : Prop} [Decidable p] {α : Type} (x y : α) : (if decide p = true then x else y) = if p then x else y := by
  by_cases h : p <;> simp [h]
theorem f01 {r : Rw} (hr : okR r) (p : Nat) : (if gfI r = p then rF r * 1 else 0) = (if gfI r = p ∧ rF r = 1 then (1 : Int32) else 0) ∧ (if gfI r = p then rF r * (-1) else 0) = (if gfI r = p ∧ rF r = 1 then (-1 : Int32) else 0) := by
  obtain ⟨f, hf, ef⟩ := hr.2.2.2.2.2.2.1
  rcases (show f = 0 ∨ f = 1 by omega) with e | e
  · rw [ef, e]
    have h0 : nI 0 = 0 := rfl
    have h1 : ¬ (0 : Int32) = 1 := by decide
    rw [h0]
    simp [h1]
  · rw [ef, e]
    have h0 : nI 1 = 1 := rfl
    rw [h0]
    by_cases g : gfI r = p <;> simp [g]
section
variable {N : Nat} {xs : Nat → Int32} {σ σ' : Sto} {n d : Nat} {L : Nat → List Nat} {S : Nat} {D : List Rw} {ol : List Nat} {pth : Nat → List Int32}
theorem tn_gi {r : Rw} {a j : Nat} (e1 : a ≠ 4) (e2 : a ≠ 5) (e3 : a ≠ 6) (e4 : ¬ (a = 1 ∧ j = 9)) (e5 : ¬ (a = 7 ∧ j = 6)) : gi (tnX σ' r) a j = gi σ' a j := by
  unfold tnX
  rw [gi_si_k, if_neg e5, gi_si_k, if_neg e4, tlA_gi e1 e2 e3]
theorem tl_o (r : Rw) (m : Int32) : gr (tlA σ r m) = gr σ ∧ gl (tlA σ r m) = gl σ ∧ sn (tlA σ r m) = sn σ := by
  unfold tlA
  simp only [gr_si_r, gl_si_r, sn_si_r]
  exact ⟨trivial, trivial, trivial⟩
theorem tn_o (r : Rw) : gr (tnX σ' r) = gr σ' ∧ gl (tnX σ' r) = gl σ' ∧ sn (tnX σ' r) = sn σ' := by
  unfold tnX
  simp only [gr_si_r, gl_si_r, sn_si_r, (tl_o r 1).1, (tl_o r 1).2.1, (tl_o r 1).2.2]
  exact ⟨trivial, trivial, trivial⟩
theorem st_o (k : Nat) (r : Rw) : gr (stM σ k r) = gr σ ∧ sn (stM σ k r) = sn σ := by
  unfold stM
  simp only [gr_si_r, gr_sl_r, sn_si_r, sn_sl_r]
  exact ⟨trivial, trivial⟩
theorem L_new (h : INV N xs σ n L S D ol pth) {t : Nat} (ht : t < 20) : ∀ a, a ∈ sn σ :: L t → 103 ≤ a := fun a ha => by
  have := h.1.1.xb.1
  rcases List.mem_cons.mp ha with q | q
  · omega
  · exact h.1.1.g ht a q
/-- the store ahead of the reference's turn, a new span told -/
theorem tn_x (h : INV N xs σ n L S D ol pth) {t : Nat} (ht : t < 20) {r : Rw} (sI : scI (28 + 2 * t) (sn σ :: L t) (nwX σ r) σ') : (∀ a j, a < 103 → a ≠ 4 → a ≠ 5 → a ≠ 6 → ¬ (a = 1 ∧ j = 9) → ¬ (a = 7 ∧ j = 6) → ¬ (a = 28 + 2 * t ∧ (j = 1 ∨ j = 2)) → gi (tnX σ' r) a j = gi σ a j) ∧ rwM (tnX σ' r) = rwM σ ∧ MB (tnX σ' r) S := by
  have s103 := h.1.1.xb.1
  have gx : ∀ a j, a < 103 → a ≠ 4 → a ≠ 5 → a ≠ 6 → ¬ (a = 1 ∧ j = 9) → ¬ (a = 7 ∧ j = 6) → ¬ (a = 28 + 2 * t ∧ (j = 1 ∨ j = 2)) → gi (tnX σ' r) a j = gi σ a j := fun a j e0 e1 e2 e3 e4 e5 e6 => by
    rw [tn_gi e1 e2 e3 e4 e5, sI.2.2.1 a j e6, nwX_gi (by omega)]
  have lx : ∀ a, a < 103 → gl (tnX σ' r) a = gl σ a := fun a e0 => by
    rw [(tn_o r).2.1, sI.2.1, nwX_gl (by omega)]
  refine ⟨gx, ?_, ?_⟩
  · funext j
    unfold rwM
    have e : ∀ a, 69 ≤ a → a ≤ 75 → gi (tnX σ' r) a j = gi σ a j := fun a e1 e2 => gx a j (by omega) (by omega) (by omega) (by omega) (by omega) (by omega) (by omega)
    rw [e 69 (by omega) (by omega), e 70 (by omega) (by omega), e 71 (by omega) (by omega), e 72 (by omega) (by omega), e 73 (by omega) (by omega), e 74 (by omega) (by omega), e 75 (by omega) (by omega), lx 76 (by omega), lx 77 (by omega)]
  · refine MB_of (σ := σ) (by rw [(tn_o r).2.2, sI.1]; exact Nat.le_succ _) (gx 68 0 (by omega) (by omega) (by omega) (by omega) (by omega) (by omega) (by omega)) (funext fun j => ?_) h.1.2.1
    rw [(tn_o r).1, sI.2.2.2 68 j (by omega) (fun q => by have := L_new h ht 68 q.1; omega), nwX_gr (by omega)]
theorem rp_new (h : INV N xs σ n L S D ol pth) (hn : n < 64) {t : Nat} (ht : t < 20) {r : Rw} (hr : okR r) (hrt : rT r = nI t) (hf : (L t).find? (nuX σ (rN r)) = none) (fn : fIx (key (nI t) (rN r)) 0 (rws σ 0 S) = none) (hl : (L t).length < 30) (sI : scI (28 + 2 * t) (sn σ :: L t) (nwX σ r) σ') (s0 : gr σ' (28 + 2 * t) 0 = (insL (nwX σ r) (sn σ) (L t)).head?) (sl : lkt σ' (insL (nwX σ r) (sn σ) (L t)) none) (sz : gi σ' (28 + 2 * t) 1 = gi σ (28 + 2 * t) 1 + 1) (s2 : gi σ' (28 + 2 * t) 2 = 0) : IV N xs (si (stM (tnX σ' r) S r) 68 0 (nI (S + 1))) (n + 1) := by
  obtain ⟨gx, em, -⟩ := tn_x h ht sI
  obtain ⟨⟨i1, i2, i3⟩, i4, i5, i6, i7, i8, i9, i10⟩ := id h
  obtain ⟨t1, t2, t3, t4, t5, t6⟩ := id i4
  obtain ⟨r1, r2, r3, r4, r5, r6⟩ := id i7
  have s103 := i1.xb.1
  have lp : (insL (nwX σ r) (sn σ) (L t)).length = (L t).length + 1 := by
    rw [(insL_perm _ _ _).length_eq]; rfl
  have hρ : ∀ a j, ¬ (69 ≤ a ∧ a ≤ 75) → ¬ (a = 68 ∧ j = 0) → gi (si (stM (tnX σ' r) S r) 68 0 (nI (S + 1))) a j = gi (tnX σ' r) a j := fun a j e1 e2 => by
    rw [gi_si_k, if_neg e2, stM_gi e1]
  have rρ : gr (si (stM (tnX σ' r) S r) 68 0 (nI (S + 1))) = gr σ' := by rw [gr_si_r, (st_o S r).1, (tn_o r).1]
  have sρ : sn (si (stM (tnX σ' r) S r) 68 0 (nI (S + 1))) = sn σ' := by rw [sn_si_r, (st_o S r).2, (tn_o r).2.2]
  have lρ : ∀ a, a ≠ 76 → a ≠ 77 → gl (si (stM (tnX σ' r) S r) 68 0 (nI (S + 1))) a = gl σ' a := fun a e1 e2 => by rw [gl_si_r, stM_gl e1 e2, (tn_o r).2.1]
  have m0 : gi (si (stM (tnX σ' r) S r) 68 0 (nI (S + 1))) 68 0 = nI (S + 1) := by rw [gi_si_k, if_pos ⟨rfl, rfl⟩]
  have ej : ∀ j, rwM (si (stM (tnX σ' r) S r) 68 0 (nI (S + 1))) j = if j = S then r else rwM σ j := fun j => by
    rw [← em, ← rwM_stM]
    unfold rwM
    rw [gl_si_r]
    have g : ∀ a, 69 ≤ a → gi (si (stM (tnX σ' r) S r) 68 0 (nI (S + 1))) a j = gi (stM (tnX σ' r) S r) a j := fun a e => by rw [gi_si_k, if_neg (by omega)]
    rw [g 69 (by omega), g 70 (by omega), g 71 (by omega), g 72 (by omega), g 73 (by omega), g 74 (by omega), g 75 (by omega)]
  generalize si (stM (tnX σ' r) S r) 68 0 (nI (S + 1)) = ρ at *
  have erow : rws ρ 0 (S + 1) = rws σ 0 S ++ [r] := by
    rw [rws_snoc, rws_congr (σ := σ) (σ' := ρ) S 0 (fun j hj => by rw [ej, if_neg (by omega)]), ej, if_pos (by omega)]
  have pe : (rws ρ 0 (S + 1)).Perm (r :: rws σ 0 S) := by rw [erow]; exact List.perm_append_comm
  refine rp_I h hn ht hr hrt (l0 := L t) (Z := rws σ 0 S) (fun a ha => ha) (h.nd ht) (fun a ha q => ?_) rfl (h.so ht) (by omega) h.rm ?_ (i3.2.2.1 t ht) (fun u hu _ => i3.2.2.1 u hu) pe (fun a j e1 e2 e3 e4 e5 e6 e7 e8 => ?_) (fun a e1 e2 => ?_) (fun a j e1 e2 => by rw [rρ]; exact sI.2.2.2 a j e1 e2) (by rw [sρ, sI.1]; rfl) (by rw [rρ]; exact s0) ?_ ?_ ?_ ?_ m0 (by omega) (fun P hP => ?_) (fun P hP => ?_) (fun P j hP hj => ?_) ?_ (by omega)
  · rw [List.find?_eq_none] at hf
    exact hf a ha (by unfold nuX; rw [q]; simp)
  · rw [List.nodup_cons]
    refine ⟨fun q => ?_, i3.2.1⟩
    obtain ⟨z, hz, ez⟩ := List.mem_map.mp q
    have := fIx_none fn z hz
    unfold kyR at ez
    rw [Prod.mk.injEq, hrt] at ez
    unfold key at this
    rw [ez.1, ez.2] at this
    simp at this
  · rw [hρ a j e6 (by omega), tn_gi e1 e2 e3 (by omega) e5, sI.2.2.1 a j e8]
  · rw [lρ a e1 e2, sI.2.1]
  · rw [hρ _ _ (by omega) (by omega), tn_gi (by omega) (by omega) (by omega) (by omega) (by omega), sz, i1.n ht, nI_1, lp]
  · rw [hρ _ _ (by omega) (by omega), tn_gi (by omega) (by omega) (by omega) (by omega) (by omega), s2]
  · exact lkt_of (σ := σ') (Nat.le_of_eq sρ.symm) (fun _ _ => by rw [rρ]) sl
  · rw [hρ _ _ (by omega) (by omega)]; unfold tnX; rw [gi_si_k, if_pos ⟨rfl, rfl⟩]
  · rw [cntD pe, ← List.countP_append, nI_p, hρ _ _ (by omega) (by omega)]
    unfold tnX
    rw [gi_si_k, if_neg (by omega), gi_si_k, if_neg (by omega), tl4, sI.2.2.1 4 P (by omega), nwX_gi (by omega), t4 P hP, ifd]
  · rw [cntD pe, ← List.countP_append, nI_p, hρ _ _ (by omega) (by omega)]
    unfold tnX
    rw [gi_si_k, if_neg (by omega), gi_si_k, if_neg (by omega), tl5, sI.2.2.1 5 P (by omega), nwX_gi (by omega), t5 P hP, (f01 hr P).1, ifd]
  · rw [cntD pe, ← List.countP_append, nI_p, hρ _ _ (by omega) (by omega)]
    unfold tnX
    rw [gi_si_k, if_neg (by omega), gi_si_k, if_neg (by omega), tl6 _ _ _ _ _ hj, sI.2.2.1 6 _ (by omega), nwX_gi (by omega), t6 P j hP hj, ifd]
  · have g1 : ∀ j, 10 ≤ j → j ≤ 14 → gi ρ 1 j = gi σ 1 j := fun j e1 e2 => by
      rw [hρ _ _ (by omega) (by omega)]; exact gx 1 j (by omega) (by omega) (by omega) (by omega) (by omega) (by omega) (by omega)
    have g68 : ∀ j, 13 ≤ j → j ≤ 17 → gi ρ 68 j = gi σ 68 j := fun j e1 e2 => by
      rw [hρ _ _ (by omega) (by omega)]; exact gx 68 j (by omega) (by omega) (by omega) (by omega) (by omega) (by omega) (by omega)
    refine ⟨?_, by rw [g1 10 (by omega) (by omega), g68 13 (by omega) (by omega)]; exact r2, by rw [g1 11 (by omega) (by omega), g68 14 (by omega) (by omega)]; exact r3, by rw [g1 12 (by omega) (by omega), g68 15 (by omega) (by omega)]; exact r4, by rw [g1 13 (by omega) (by omega), g68 16 (by omega) (by omega)]; exact r5, by rw [g1 14 (by omega) (by omega), g68 17 (by omega) (by omega)]; exact r6⟩
    rw [hρ _ _ (by omega) (by omega)]
    unfold tnX
    rw [gi_si_k, if_neg (by omega), gi_si_k, if_pos ⟨rfl, rfl⟩, sI.2.2.1 1 9 (by omega), nwX_gi (by omega), r1, nI_1]
end
