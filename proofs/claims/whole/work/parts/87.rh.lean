/-! what holds of both between two calls -/
def sci (a k : Nat) : Prop := (28 ≤ a ∧ a < 68 ∧ a % 2 = 0 ∧ k = 2) ∨ (a = 7 ∧ (k = 4 ∨ k = 5 ∨ k = 6)) ∨ a = 11 ∨ (a = 20 ∧ k = 4) ∨ a = 21 ∨ a = 22 ∨ (a = 68 ∧ (k = 18 ∨ k = 27)) ∨ a = 83 ∨ a = 84 ∨ a = 85 ∨ a = 89 ∨ a = 92
def scl (a : Nat) : Prop := a = 8 ∨ a = 9 ∨ a = 23 ∨ a = 24 ∨ a = 25 ∨ a = 81 ∨ a = 82 ∨ a = 90 ∨ a = 91 ∨ a = 93
/-- nothing but what is reckoned anew was written -/
def QQ (σ σ' : Sto) : Prop := sn σ' = sn σ ∧ (∀ a k, 103 ≤ a → k ≠ 11 → gi σ' a k = gi σ a k) ∧ (∀ a k, a < 103 → ¬ sci a k → gi σ' a k = gi σ a k) ∧ (∀ a, ¬ scl a → gl σ' a = gl σ a) ∧ (∀ k, gr σ' 0 k = gr σ 0 k)
theorem XQ.qq {σ σ' : Sto} (h : XQ σ σ') : QQ σ σ' := ⟨h.1, h.2.2.2.1, fun a k ha hs => h.2.2.2.2.1 a k ha (fun q => hs (Or.inl q)) (fun q => hs (Or.inr (Or.inl q))) (fun q => hs (Or.inr (Or.inr (Or.inl q)))) (fun q => hs (Or.inr (Or.inr (Or.inr (Or.inl q))))) (fun q => hs (Or.inr (Or.inr (Or.inr (Or.inr (Or.inl q)))))) (fun q => hs (Or.inr (Or.inr (Or.inr (Or.inr (Or.inr (Or.inl q))))))), fun a hs => h.2.2.2.2.2 a (fun q => hs (by unfold scl; omega)) (fun q => hs (by unfold scl; omega)) (fun q => hs (by unfold scl; omega)) (fun q => hs (by unfold scl; omega)) (fun q => hs (by unfold scl; omega)), fun k => h.2.1 0 k (by decide)⟩
/-- what the reference may write at a question -/
def MQs (σ σ' : Sto) : Prop := sn σ' = sn σ ∧ gr σ' = gr σ ∧ (∀ a k, ¬ (a = 68 ∧ (k = 18 ∨ k = 27)) → a ≠ 83 → a ≠ 84 → a ≠ 85 → a ≠ 89 → a ≠ 92 → gi σ' a k = gi σ a k) ∧ (∀ a, a ≠ 81 → a ≠ 82 → a ≠ 90 → a ≠ 91 → a ≠ 93 → gl σ' a = gl σ a)
theorem MQs.rfl (σ : Sto) : MQs σ σ := ⟨Eq.refl _, Eq.refl _, fun _ _ _ _ _ _ _ _ => Eq.refl _, fun _ _ _ _ _ _ => Eq.refl _⟩
theorem MQs.trans {σ σ' σ'' : Sto} (h1 : MQs σ σ') (h2 : MQs σ' σ'') : MQs σ σ'' := ⟨h2.1.trans h1.1, h2.2.1.trans h1.2.1, fun a k e1 e2 e3 e4 e5 e6 => (h2.2.2.1 a k e1 e2 e3 e4 e5 e6).trans (h1.2.2.1 a k e1 e2 e3 e4 e5 e6), fun a e1 e2 e3 e4 e5 => (h2.2.2.2 a e1 e2 e3 e4 e5).trans (h1.2.2.2 a e1 e2 e3 e4 e5)⟩
theorem MQs.c4 {σ σ' : Sto} (h : sc4 σ σ') : MQs σ σ' := ⟨h.1, h.2.1, fun a k _ e1 e2 _ _ _ => by rw [h.2.2.1 a e1 e2], fun a e1 e2 _ _ _ => h.2.2.2 a e1 e2⟩
theorem MQs.g {σ σ' : Sto} (h : scG σ σ') : MQs σ σ' := ⟨h.1, h.2.1, fun a k _ _ _ e _ _ => by rw [h.2.2.1 a e], fun a _ _ _ _ _ => by rw [h.2.2.2]⟩
theorem MQs.w {σ σ' : Sto} (h : scW σ σ') : MQs σ σ' := ⟨h.1, h.2.1, fun a k e0 _ _ _ e1 e2 => by
  by_cases e : a = 68
  · subst e; exact h.2.2.2.1 k (fun q => e0 ⟨Eq.refl _, Or.inl q⟩) (fun q => e0 ⟨Eq.refl _, Or.inr q⟩)
  · rw [h.2.2.1 a e e1 e2], fun a _ _ e1 e2 e3 => h.2.2.2.2 a e1 e2 e3⟩
theorem MQs.d (σ : Sto) (v : Int32) : MQs σ (dp σ v) := MQs.w (scW.dp σ v)
theorem MQs.qq {σ σ' : Sto} (h : MQs σ σ') : QQ σ σ' := ⟨h.1, fun a k ha _ => h.2.2.1 a k (by omega) (by omega) (by omega) (by omega) (by omega) (by omega), fun a k _ hs => h.2.2.1 a k (fun q => hs (by unfold sci; omega)) (fun q => hs (by unfold sci; omega)) (fun q => hs (by unfold sci; omega)) (fun q => hs (by unfold sci; omega)) (fun q => hs (by unfold sci; omega)) (fun q => hs (by unfold sci; omega)), fun a hs => h.2.2.2 a (fun q => hs (by unfold scl; omega)) (fun q => hs (by unfold scl; omega)) (fun q => hs (by unfold scl; omega)) (fun q => hs (by unfold scl; omega)) (fun q => hs (by unfold scl; omega)), fun k => by rw [h.2.1]⟩
theorem MQs.rw {σ σ' : Sto} (h : MQs σ σ') : rwM σ' = rwM σ := by
  funext k
  unfold rwM
  have e : ∀ a, 69 ≤ a → a ≤ 75 → gi σ' a k = gi σ a k := fun a h1 h2 => h.2.2.1 a k (by omega) (by omega) (by omega) (by omega) (by omega) (by omega)
  rw [e 69 (by omega) (by omega), e 70 (by omega) (by omega), e 71 (by omega) (by omega), e 72 (by omega) (by omega), e 73 (by omega) (by omega), e 74 (by omega) (by omega), e 75 (by omega) (by omega), h.2.2.2 76 (by omega) (by omega) (by omega) (by omega) (by omega), h.2.2.2 77 (by omega) (by omega) (by omega) (by omega) (by omega)]
theorem MB_of {σ σ' : Sto} {S : Nat} (h1 : sn σ ≤ sn σ') (h2 : gi σ' 68 0 = gi σ 68 0) (h3 : gr σ' 68 = gr σ 68) (h : MB σ S) : MB σ' S := by
  obtain ⟨a, b, c, e⟩ := h
  refine ⟨Nat.le_trans a h1, b, by rw [h2]; exact c, ?_⟩
  rw [h3]
  exact e
theorem XQ.mb {σ σ' : Sto} {S : Nat} (h : XQ σ σ') (hM : MB σ S) : MB σ' S := MB_of (Nat.le_of_eq h.1.symm) (h.2.2.2.2.1 68 0 (by omega) (by omega) (by omega) (by omega) (by omega) (by omega) (by omega)) (funext fun k => h.2.1 68 k (by omega)) hM
theorem MQs.mb {σ σ' : Sto} {S : Nat} (h : MQs σ σ') (hM : MB σ S) : MB σ' S := MB_of (Nat.le_of_eq h.1.symm) (h.2.2.1 68 0 (by omega) (by omega) (by omega) (by omega) (by omega) (by omega)) (by rw [h.2.1]) hM
/-- the reference writes its own cells alone: the class's stay -/
theorem XI.m {σ σ' : Sto} {L : Nat → List Nat} (hI : XI σ L) (hs : sn σ' = sn σ) (hr : gr σ' = gr σ) (h1 : ∀ a k, ¬ (68 ≤ a ∧ a ≤ 102) → gi σ' a k = gi σ a k) (h2 : ∀ a, ¬ (68 ≤ a ∧ a ≤ 102) → gl σ' a = gl σ a) : XI σ' L := by
  refine hI.of hs hr (fun a ha => ⟨funext fun k => h1 a k (by omega), h2 a (by omega)⟩) (fun u hu => ⟨h1 _ _ (by omega), h1 _ _ (by omega)⟩) ?_
  rw [h1 7 6 (by omega)]
  rcases hI.2.2.2 with q | q
  · exact Or.inl q
  · exact Or.inr ⟨q.1, KN_of (h2 8 (by omega)) (h2 9 (by omega)) (h1 7 4 (by omega)) (h1 7 5 (by omega)) (funext fun k => h1 11 k (by omega)) q.2⟩
theorem MQs.xi {σ σ' : Sto} {L : Nat → List Nat} (h : MQs σ σ') (hI : XI σ L) : XI σ' L := hI.m h.1 h.2.1 (fun a k ha => h.2.2.1 a k (by omega) (by omega) (by omega) (by omega) (by omega) (by omega)) (fun a ha => h.2.2.2 a (by omega) (by omega) (by omega) (by omega) (by omega))
/-! the parts -/
def TTs (σ : Sto) (S : Nat) (D : List Rw) : Prop := (∀ r, r ∈ D → okR r) ∧ Gn σ (gnL (fun _ => 0) D) ∧ Gf σ (gfL (fun _ => 0) D) ∧ (∀ p, p < 48 → gi σ 4 p = nI ((D ++ rws σ 0 S).countP (fun r => decide (gfI r = p)))) ∧ (∀ p, p < 48 → gi σ 5 p = nI ((D ++ rws σ 0 S).countP (fun r => decide (gfI r = p ∧ rF r = 1)))) ∧ (∀ p j, p < 48 → j ≤ 30 → gi σ 6 (31 * p + j) = nI ((D ++ rws σ 0 S).countP (fun r => decide (gfI r = p ∧ stp r = j))))
def CKs (σ : Sto) : Prop := gl σ 10 = gl σ 86 ∧ mvB (gl σ 10) ∧ (∀ j, j < 6 → gl σ 12 j = gl σ 87 j ∧ gi σ 13 j = gi σ 88 j ∧ (gi σ 88 j = 0 ∨ gi σ 88 j = 1)) ∧ gi σ 7 7 = nI (cnt (fun k => decide (¬ gi σ 88 k = 0)) 0 6) ∧ gi σ 26 = gi σ 97 ∧ gi σ 1 8 = gi σ 68 38
def klO (σ : Sto) (ol : List Nat) : List Nat := ol.filter (fun t => decide (gi σ 78 t = 1))
def CS (σ : Sto) (ol : List Nat) (pth : Nat → List Int32) : Prop := (∀ t, t < 20 → gi σ (28 + 2 * t) 3 = gi σ 78 t ∧ gi σ (28 + 2 * t) 4 = gi σ 80 t ∧ gi σ (28 + 2 * t) 5 = gi σ 79 t) ∧ (∀ t, t < 20 → (gi σ 78 t = 0 ∧ t ∉ ol) ∨ (gi σ 78 t = 1 ∧ t ∈ ol) ∨ (gi σ 78 t = 2 ∧ t ∈ ol)) ∧ (∀ t, t < 20 → (gi σ 80 t = 3 → gi σ 78 t = 1) ∧ (gi σ 78 t = 0 → gi σ 80 t = 0)) ∧ ol.Nodup ∧ OD σ 0 ol ∧ gi σ 68 42 = nI ol.length ∧ gi σ 1 15 = nI ol.length ∧ KL σ (klO σ ol) ∧ gi σ 1 7 = nI (klO σ ol).length ∧ (∀ o, o < 20 → PX σ o (pth o) ∧ PH σ o (pth o)) ∧ (∀ o, (pth o).length ≤ 60)
def CT (σ : Sto) (S : Nat) : Prop := gi σ 1 9 = nI S ∧ gi σ 1 10 = gi σ 68 13 ∧ gi σ 1 11 = gi σ 68 14 ∧ gi σ 1 12 = gi σ 68 15 ∧ gi σ 1 13 = gi σ 68 16 ∧ gi σ 1 14 = gi σ 68 17
def TW (σ : Sto) : Prop := ∃ ts : List Pt, WY σ 14 ts ∧ ts.length ≤ 60 ∧ TP σ (ts.reverse.map (fun q => (q.1, q.2.2.1, q.2.2.2)))
def SC (σ : Sto) (N : Nat) (xs : Nat → Int32) : Prop := gr σ 0 0 = some N ∧ ∀ j, j < N → gi σ 0 j = xs j
section
variable {σ σ' : Sto}
theorem QQ.i (h : QQ σ σ') {a k : Nat} (ha : a < 103) (hs : ¬ sci a k) : gi σ' a k = gi σ a k := h.2.2.1 a k ha hs
theorem QQ.m (h : QQ σ σ') : rwM σ' = rwM σ := by
  funext k
  unfold rwM
  have e : ∀ a, 69 ≤ a → a ≤ 75 → gi σ' a k = gi σ a k := fun a h1 h2 => h.i (by omega) (by unfold sci; omega)
  rw [e 69 (by omega) (by omega), e 70 (by omega) (by omega), e 71 (by omega) (by omega), e 72 (by omega) (by omega), e 73 (by omega) (by omega), e 74 (by omega) (by omega), e 75 (by omega) (by omega), h.2.2.2.1 76 (by unfold scl; omega), h.2.2.2.1 77 (by unfold scl; omega)]
theorem QQ.x (h : QQ σ σ') {t : Int32} {a : Nat} (ha : 103 ≤ a) : rwX σ' t a = rwX σ t a := by
  unfold rwX
  rw [h.2.1 a 0 ha (by decide), h.2.1 a 1 ha (by decide), h.2.1 a 2 ha (by decide), h.2.1 a 3 ha (by decide), h.2.1 a 4 ha (by decide), h.2.1 a 5 ha (by decide), h.2.2.2.1 a (by unfold scl; omega)]
theorem RO_of {L : Nat → List Nat} {S : Nat} (hm : rwM σ' = rwM σ) (hx : ∀ t a, 103 ≤ a → rwX σ' t a = rwX σ t a) (hg : ∀ t, t < 20 → ∀ a, a ∈ L t → 103 ≤ a) (h : RO σ L S) : RO σ' L S := by
  obtain ⟨h1, h2, h3, h4⟩ := h
  refine ⟨fun k hk => by rw [hm]; exact h1 k hk, by rw [rws_of hm]; exact h2, fun t ht => ?_, fun t ht => ⟨?_, (h4 t ht).2⟩⟩
  · rw [rws_of hm]
    have e : (L t).map (rwX σ' (nI t)) = (L t).map (rwX σ (nI t)) := List.map_congr_left (fun a ha => hx _ a (hg t ht a ha))
    rw [e]
    exact h3 t ht
  · have := (h4 t ht).1
    unfold SO at this ⊢
    refine List.Pairwise.imp_of_mem (fun {a b} ha hb q => ?_) this
    unfold ahX at q ⊢
    rw [hx _ a (hg t ht a ha), hx _ b (hg t ht b hb)]
    exact q
theorem TTs_of {S : Nat} {D : List Rw} (hm : rwM σ' = rwM σ) (h : ∀ a k, a = 4 ∨ a = 5 ∨ a = 6 ∨ a = 101 ∨ a = 102 → gi σ' a k = gi σ a k) (hT : TTs σ S D) : TTs σ' S D := by
  obtain ⟨t1, t2, t3, t4, t5, t6⟩ := hT
  refine ⟨t1, fun i hi => by rw [h 101 i (by omega)]; exact t2 i hi, fun i hi => by rw [h 102 i (by omega)]; exact t3 i hi, fun p hp => ?_, fun p hp => ?_, fun p j hp hj => ?_⟩
  · rw [h 4 p (by omega), rws_of hm]; exact t4 p hp
  · rw [h 5 p (by omega), rws_of hm]; exact t5 p hp
  · rw [h 6 _ (by omega), rws_of hm]; exact t6 p j hp hj
theorem CKs_of (h1 : ∀ a, a = 10 ∨ a = 86 ∨ a = 12 ∨ a = 87 → gl σ' a = gl σ a) (h2 : ∀ a, a = 13 ∨ a = 88 ∨ a = 26 ∨ a = 97 → gi σ' a = gi σ a) (h3 : gi σ' 7 7 = gi σ 7 7) (h4 : gi σ' 1 8 = gi σ 1 8) (h5 : gi σ' 68 38 = gi σ 68 38) (h : CKs σ) : CKs σ' := by
  unfold CKs at h ⊢
  rw [h1 10 (by omega), h1 86 (by omega), h1 12 (by omega), h1 87 (by omega), h2 13 (by omega), h2 88 (by omega), h2 26 (by omega), h2 97 (by omega), h3, h4, h5]
  exact h
theorem CS_of {ol : List Nat} {pth : Nat → List Int32} (h1 : ∀ t k, t < 20 → (k = 3 ∨ k = 4 ∨ k = 5 ∨ k = 7) → gi σ' (28 + 2 * t) k = gi σ (28 + 2 * t) k) (h2 : ∀ t, t < 20 → gi σ' (29 + 2 * t) = gi σ (29 + 2 * t)) (h3 : ∀ a, a = 78 ∨ a = 79 ∨ a = 80 ∨ a = 98 ∨ a = 99 ∨ a = 100 ∨ a = 27 → gi σ' a = gi σ a) (h4 : gi σ' 68 42 = gi σ 68 42) (h5 : gi σ' 1 15 = gi σ 1 15) (h6 : gi σ' 1 7 = gi σ 1 7) (h : CS σ ol pth) : CS σ' ol pth := by
  obtain ⟨c1, c2, c3, c4, c5, c6, c7, c8, c9, c10, c11⟩ := h
  have ek : klO σ' ol = klO σ ol := by unfold klO; rw [h3 78 (by omega)]
  refine ⟨fun t ht => ?_, ?_, ?_, c4, OD_of (h3 100 (by omega)) _ _ c5, by rw [h4]; exact c6, by rw [h5]; exact c7, ?_, by rw [h6, ek]; exact c9, fun o ho => ⟨⟨?_, fun i q hq => ?_⟩, ⟨?_, fun i q hq => ?_⟩⟩, c11⟩
  · rw [h1 t 3 ht (by omega), h1 t 4 ht (by omega), h1 t 5 ht (by omega), h3 78 (by omega), h3 79 (by omega), h3 80 (by omega)]
    exact c1 t ht
  · rw [h3 78 (by omega)]; exact c2
  · rw [h3 78 (by omega), h3 80 (by omega)]; exact c3
  · rw [ek]
    intro i o hio
    rw [h3 27 (by omega)]
    exact c8 i o hio
  · rw [h1 o 7 ho (by omega)]; exact (c10 o ho).1.1
  · rw [h2 o ho]; exact (c10 o ho).1.2 i q hq
  · rw [h3 99 (by omega)]; exact (c10 o ho).2.1
  · rw [h3 98 (by omega)]; exact (c10 o ho).2.2 i q hq
theorem CT_of {S : Nat} (h1 : ∀ k, 9 ≤ k → k ≤ 14 → gi σ' 1 k = gi σ 1 k) (h2 : ∀ k, 13 ≤ k → k ≤ 17 → gi σ' 68 k = gi σ 68 k) (h : CT σ S) : CT σ' S := by
  unfold CT at h ⊢
  rw [h1 9 (by omega) (by omega), h1 10 (by omega) (by omega), h1 11 (by omega) (by omega), h1 12 (by omega) (by omega), h1 13 (by omega) (by omega), h1 14 (by omega) (by omega), h2 13 (by omega) (by omega), h2 14 (by omega) (by omega), h2 15 (by omega) (by omega), h2 16 (by omega) (by omega), h2 17 (by omega) (by omega)]
  exact h
theorem TW_of (h1 : gi σ' 14 4 = gi σ 14 4) (h2 : ∀ a, a = 15 ∨ a = 16 ∨ a = 94 → gi σ' a = gi σ a) (h3 : gi σ' 68 33 = gi σ 68 33) (h4 : ∀ a, a = 17 ∨ a = 18 ∨ a = 95 ∨ a = 96 → gl σ' a = gl σ a) (h : TW σ) : TW σ' := by
  obtain ⟨ts, t1, t2, t3⟩ := h
  refine ⟨ts, ⟨by rw [h1]; exact t1.1, fun i q hq => ?_⟩, t2, ⟨by rw [h3]; exact t3.1, fun i q hq => ?_⟩⟩
  · rw [h2 (14 + 1) (by omega), h2 (14 + 2) (by omega), h4 (14 + 3) (by omega), h4 (14 + 4) (by omega)]
    exact t1.2 i q hq
  · rw [h2 94 (by omega), h4 95 (by omega), h4 96 (by omega)]
    exact t3.2 i q hq
theorem SC_of {N : Nat} {xs : Nat → Int32} (h1 : gr σ' 0 0 = gr σ 0 0) (h2 : gi σ' 0 = gi σ 0) (h : SC σ N xs) : SC σ' N xs := ⟨by rw [h1]; exact h.1, fun j hj => by rw [h2]; exact h.2 j hj⟩
end
def INV (N : Nat) (xs : Nat → Int32) (σ : Sto) (n : Nat) (L : Nat → List Nat) (S : Nat) (D : List Rw) (ol : List Nat) (pth : Nat → List Int32) : Prop := (XI σ L ∧ MB σ S ∧ RO σ L S) ∧ TTs σ S D ∧ CKs σ ∧ CS σ ol pth ∧ CT σ S ∧ TW σ ∧ SC σ N xs ∧ S + D.length ≤ n ∧ n ≤ 64
def IV (N : Nat) (xs : Nat → Int32) (σ : Sto) (n : Nat) : Prop := ∃ L S D ol pth, INV N xs σ n L S D ol pth
section
variable {N : Nat} {xs : Nat → Int32} {σ σ' : Sto} {n : Nat} {L : Nat → List Nat} {S : Nat} {D : List Rw} {ol : List Nat} {pth : Nat → List Int32}
theorem INV.q (h : INV N xs σ n L S D ol pth) (hq : QQ σ σ') (hI : XI σ' L) (hM : MB σ' S) : INV N xs σ' n L S D ol pth := by
  obtain ⟨⟨i1, i2, i3⟩, i4, i5, i6, i7, i8, i9, i10⟩ := h
  have f : ∀ a, a < 103 → (∀ k, ¬ sci a k) → gi σ' a = gi σ a := fun a h1 h2 => funext fun k => hq.i h1 (h2 k)
  refine ⟨⟨hI, hM, RO_of hq.m (fun t a ha => hq.x ha) (fun t ht => i1.g ht) i3⟩, TTs_of hq.m (fun a k ha => hq.i (by omega) (by unfold sci; omega)) i4, CKs_of (fun a ha => hq.2.2.2.1 a (by unfold scl; omega)) (fun a ha => f a (by omega) (fun k => by unfold sci; omega)) (hq.i (by omega) (by unfold sci; omega)) (hq.i (by omega) (by unfold sci; omega)) (hq.i (by omega) (by unfold sci; omega)) i5, CS_of (fun t k ht hk => hq.i (by omega) (by unfold sci; omega)) (fun t ht => f _ (by omega) (fun k => by unfold sci; omega)) (fun a ha => f a (by omega) (fun k => by unfold sci; omega)) (hq.i (by omega) (by unfold sci; omega)) (hq.i (by omega) (by unfold sci; omega)) (hq.i (by omega) (by unfold sci; omega)) i6, CT_of (fun k h1 h2 => hq.i (by omega) (by unfold sci; omega)) (fun k h1 h2 => hq.i (by omega) (by unfold sci; omega)) i7, TW_of (hq.i (by omega) (by unfold sci; omega)) (fun a ha => f a (by omega) (fun k => by unfold sci; omega)) (hq.i (by omega) (by unfold sci; omega)) (fun a ha => hq.2.2.2.1 a (by unfold scl; omega)) i8, SC_of (hq.2.2.2.2 0) (f 0 (by omega) (fun k => by unfold sci; omega)) i9, i10⟩
theorem INV.x (h : INV N xs σ n L S D ol pth) (hq : XQ σ σ') (hI : XI σ' L) : INV N xs σ' n L S D ol pth := h.q hq.qq hI (hq.mb h.1.2.1)
theorem INV.m (h : INV N xs σ n L S D ol pth) (hq : MQs σ σ') : INV N xs σ' n L S D ol pth := h.q hq.qq (hq.xi h.1.1) (hq.mb h.1.2.1)
theorem INV.up (h : INV N xs σ n L S D ol pth) (hn : n < 64) : INV N xs σ (n + 1) L S D ol pth := by
  obtain ⟨i1, i4, i5, i6, i7, i8, i9, i10, i11⟩ := h
  exact ⟨i1, i4, i5, i6, i7, i8, i9, by omega, by omega⟩
theorem INV.iv (h : INV N xs σ n L S D ol pth) (hn : n < 64) : IV N xs σ (n + 1) := ⟨L, S, D, ol, pth, h.up hn⟩
end
