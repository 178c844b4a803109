/-! every way ends -/
theorem clI_shift (u : Nat → Option Nat) : ∀ (f a d : Nat), clI u f a (d + 1) = ((clI u f a d).1, (clI u f a d).2 + 1)
  | 0, _, _ => rfl
  | f + 1, a, d => by
    unfold clI
    cases u a with
    | none => rfl
    | some b => exact clI_shift u f b (d + 1)
theorem de_up {u : Nat → Option Nat} {a b : Nat} (h : u a = some b) (hr : ¬ roI u a = none) : ¬ roI u b = none ∧ deI u a = deI u b + 1 := by
  have e : clI u 31 a 0 = clI u 30 b 1 := by
    show (match u a with
      | none => (a, 0)
      | some b => clI u 30 b (0 + 1)) = _
    rw [h]
  rw [clI_shift] at e
  have hd : ¬ 30 < (clI u 30 b 0).2 + 1 := by
    intro q
    apply hr
    unfold roI deI
    rw [e, if_pos q]
  have hn := (clI_le u 30 b 0).2 (by omega)
  have e2 : clI u 31 b 0 = clI u 30 b 0 := by
    rw [show (31 : Nat) = 30 + 1 from rfl, clI_step, hn]
  have d1 : deI u b = (clI u 30 b 0).2 := by unfold deI; rw [e2]
  refine ⟨?_, ?_⟩
  · unfold roI
    rw [if_neg (by omega)]
    exact Option.some_ne_none _
  · have : deI u a = (clI u 30 b 0).2 + 1 := by unfold deI; rw [e]
    omega
def itU (u : Nat → Option Nat) : Nat → Nat → Option Nat
  | 0, a => some a
  | i + 1, a => match u a with
    | none => none
    | some b => itU u i b
theorem itU_de {u : Nat → Option Nat} : ∀ {i a k : Nat}, ¬ roI u a = none → itU u i a = some k → ¬ roI u k = none ∧ deI u a = deI u k + i
  | 0, a, k, hr, h => by
    cases h
    exact ⟨hr, rfl⟩
  | i + 1, a, k, hr, h => by
    unfold itU at h
    cases hu : u a with
    | none => rw [hu] at h; cases h
    | some b =>
      rw [hu] at h
      obtain ⟨h1, h2⟩ := de_up hu hr
      obtain ⟨h3, h4⟩ := itU_de h1 h
      exact ⟨h3, by omega⟩
theorem itU_up {u : Nat → Option Nat} : ∀ {i a k x : Nat}, itU u i a = some k → u k = some x → itU u (i + 1) a = some x
  | 0, a, k, x, h, hx => by
    cases h
    unfold itU
    rw [hx]
    rfl
  | i + 1, a, k, x, h, hx => by
    unfold itU at h
    rw [show i + 1 + 1 = (i + 1) + 1 from rfl]
    unfold itU
    cases hu : u a with
    | none => rw [hu] at h; cases h
    | some b =>
      rw [hu] at h
      exact itU_up h hx
/-- below x by a kid that ends at c or ahead of it -/
def Dn (u : Nat → Option Nat) (E : Nat → Int64) (x : Nat) (c : Int64) (a : Nat) : Prop := ¬ roI u a = none ∧ ∃ i k, itU u i a = some k ∧ u k = some x ∧ E k ≤ c
theorem kid_same {u : Nat → Option Nat} {a x i j k k' : Nat} (hr : ¬ roI u a = none) (h1 : itU u i a = some k) (h2 : itU u j a = some k') (e1 : u k = some x) (e2 : u k' = some x) : k = k' := by
  obtain ⟨r1, d1⟩ := itU_de hr h1
  obtain ⟨r2, d2⟩ := itU_de hr h2
  have f1 := (de_up e1 r1).2
  have f2 := (de_up e2 r2).2
  have : i = j := by omega
  subst this
  rw [h1] at h2
  exact Option.some.inj h2
theorem no_round {u : Nat → Option Nat} {a i k : Nat} (hr : ¬ roI u a = none) (h1 : itU u i a = some k) (e1 : u k = some a) : False := by
  have := (itU_de hr (itU_up h1 e1)).2
  omega
noncomputable def bq (p : Prop) : Bool := @decide p (Classical.propDecidable p)
theorem bq_t {p : Prop} : bq p = true ↔ p := by
  unfold bq
  exact @decide_eq_true_iff p (Classical.propDecidable p)
theorem cnt_two {p q r : Nat → Bool} (h1 : ∀ a, q a = true → p a = true) (h2 : ∀ a, r a = true → p a = true) (h3 : ∀ a, q a = true → r a = true → False) : ∀ (l : List Nat), l.countP q + l.countP r ≤ l.countP p
  | [] => Nat.le_refl _
  | a :: l => by
    have i := cnt_two h1 h2 h3 l
    rw [List.countP_cons, List.countP_cons, List.countP_cons]
    cases hq : q a with
    | true =>
      rw [h1 a hq]
      cases hr : r a with
      | true => exact (h3 a hq hr).elim
      | false => simp; omega
    | false =>
      cases hr : r a with
      | true => rw [h2 a hr]; simp; omega
      | false => simp; omega
theorem cnt_three {p q r : Nat → Bool} {k : Nat} (h1 : ∀ a, q a = true → p a = true) (h2 : ∀ a, r a = true → p a = true) (h3 : ∀ a, q a = true → r a = true → False) (hp : p k = true) (hq : q k = false) (hr : r k = false) : ∀ (l : List Nat), k ∈ l → l.countP q + l.countP r + 1 ≤ l.countP p
  | [], h => by cases h
  | a :: l, h => by
    by_cases e : a = k
    · have i := cnt_two h1 h2 h3 l
      rw [List.countP_cons, List.countP_cons, List.countP_cons, e, hp, hq, hr]
      simp
      omega
    · have i := cnt_three h1 h2 h3 hp hq hr l (by rcases List.mem_cons.mp h with q | q; exact absurd q.symm e; exact q)
      have j := cnt_two h1 h2 h3 [a]
      rw [List.countP_cons, List.countP_cons, List.countP_cons]
      rw [List.countP_cons, List.countP_cons, List.countP_cons, List.countP_nil, List.countP_nil, List.countP_nil] at j
      omega
theorem wk_ends {u : Nat → Option Nat} {l : List Nat} {nx : Nat → Int64 → Int64 → Option Nat} {B E : Nat → Int64} (hnx : ∀ x c f k, x ∈ l → nx x c f = some k → k ∈ l ∧ u k = some x ∧ ¬ roI u k = none ∧ E k ≤ c ∧ f < E k ∧ B k < E k) : ∀ (n x : Nat) (c f : Int64), x ∈ l → l.countP (fun a => bq (Dn u E x c a)) < n → ∃ lw, wkO nx B E n x c f = some lw ∧ lw.length ≤ 2 * l.countP (fun a => bq (Dn u E x c a)) + 1 := by
  intro n
  induction n with
  | zero => intro x c f _ h; omega
  | succ n ih =>
    intro x c f hx hc
    unfold wkO
    by_cases h0 : c ≤ f
    · rw [if_pos h0]; exact ⟨[], rfl, by simp⟩
    · rw [if_neg h0]
      cases hk : nx x c f with
      | none => exact ⟨_, rfl, by simp⟩
      | some k =>
        obtain ⟨k1, k2, k3, k4, k5, k6⟩ := hnx x c f k hx hk
        have hlt : mxL (B k) f < E k := mxL_lt k6 k5
        have main := cnt_three (l := l) (k := k) (p := fun a => bq (Dn u E x c a)) (q := fun a => bq (Dn u E k (E k) a)) (r := fun a => bq (Dn u E x (mxL (B k) f) a))
          (fun a ha => by
            simp only [bq_t] at ha ⊢
            obtain ⟨r1, i, k', e1, e2, e3⟩ := ha
            exact ⟨r1, i + 1, k, itU_up e1 e2, k2, k4⟩)
          (fun a ha => by
            simp only [bq_t] at ha ⊢
            obtain ⟨r1, i, k', e1, e2, e3⟩ := ha
            exact ⟨r1, i, k', e1, e2, Int64.le_trans e3 (Int64.le_trans (Int64.le_of_lt hlt) k4)⟩)
          (fun a ha hb => by
            simp only [bq_t] at ha hb
            obtain ⟨r1, i, k', e1, e2, e3⟩ := ha
            obtain ⟨r2, j, k'', g1, g2, g3⟩ := hb
            have := kid_same r1 (itU_up e1 e2) g1 k2 g2
            rw [← this] at g3
            exact Int64.not_le.mpr hlt g3)
          (by simp only [bq_t]; exact ⟨k3, 0, k, rfl, k2, k4⟩)
          (by
            refine Bool.eq_false_iff.mpr (fun q => ?_)
            simp only [bq_t] at q
            obtain ⟨r1, i, k', e1, e2, e3⟩ := q
            exact no_round r1 e1 e2)
          (by
            refine Bool.eq_false_iff.mpr (fun q => ?_)
            simp only [bq_t] at q
            obtain ⟨r1, i, k', e1, e2, e3⟩ := q
            have := kid_same r1 (i := 0) rfl e1 k2 e2
            rw [← this] at e3
            exact Int64.not_le.mpr hlt e3) k1
        obtain ⟨l1, w1, w2⟩ := ih k (E k) (mxL (B k) f) k1 (by omega)
        obtain ⟨l2, w3, w4⟩ := ih x (mxL (B k) f) f hx (by omega)
        simp only [w1, w3]
        refine ⟨_, rfl, ?_⟩
        rw [List.length_append, List.length_append]
        have : (if E k < c then [(x, E k, c)] else []).length ≤ 1 := by split <;> simp
        omega
theorem wk_root {u : Nat → Option Nat} {l : List Nat} {nx : Nat → Int64 → Int64 → Option Nat} {B E : Nat → Int64} (hnx : ∀ x c f k, x ∈ l → nx x c f = some k → k ∈ l ∧ u k = some x ∧ ¬ roI u k = none ∧ E k ≤ c ∧ f < E k ∧ B k < E k) (hl : l.length ≤ 30) {x : Nat} (hx : x ∈ l) (c f : Int64) : ∃ lw, wkO nx B E 30 x c f = some lw ∧ lw.length ≤ 60 := by
  have h := cnt_three (l := l) (k := x) (p := fun _ => true) (q := fun a => bq (Dn u E x c a)) (r := fun _ => false) (fun _ _ => rfl) (fun _ h => by cases h) (fun _ _ h => by cases h) rfl
    (by
      refine Bool.eq_false_iff.mpr (fun q => ?_)
      simp only [bq_t] at q
      obtain ⟨r1, i, k', e1, e2, e3⟩ := q
      exact no_round r1 e1 e2) rfl hx
  have hle : l.countP (fun _ => true) ≤ l.length := List.countP_le_length
  obtain ⟨lw, h1, h2⟩ := wk_ends hnx 30 x c f hx (by omega)
  exact ⟨lw, h1, by omega⟩
theorem nxX_kid {σ : Sto} {l : List Nat} {mv : Nat → Int64} (hg : ∀ a, a ∈ l → 103 ≤ a) (hU : ∀ a b, a ∈ l → b ∈ l → gi σ a 0 = gi σ b 0 → a = b) (hR : ∀ a, a ∈ l → ∃ t, okR (rwX σ t a)) (hm : mvB mv) : ∀ x c f k, x ∈ l → nxX σ l mv x c f = some k → k ∈ l ∧ uX σ l k = some x ∧ ¬ roI (uX σ l) k = none ∧ enR mv (rwX σ 0 k) ≤ c ∧ f < enR mv (rwX σ 0 k) ∧ beR mv (rwX σ 0 k) < enR mv (rwX σ 0 k) := fun x c f k hx h => by
  obtain ⟨h1, h2⟩ := nxX_mem h
  unfold elX kiX elR at h2
  rw [Bool.and_eq_true, decide_eq_true_eq, decide_eq_true_eq] at h2
  obtain ⟨⟨a1, a2, a3⟩, b1, b2, b3, b4⟩ := h2
  refine ⟨h1, ?_, a1, Int64.not_lt.mp b3, b4, ?_⟩
  · rw [uX_eq (hg k h1), a3]
    cases hf : l.find? (nuX σ (gi σ x 0)) with
    | none =>
      rw [List.find?_eq_none] at hf
      exact absurd (by simp [nuX]) (hf x hx)
    | some d =>
      have e := List.find?_some hf
      simp only [nuX, decide_eq_true_eq] at e
      rw [hU d x (List.mem_of_find?_eq_some hf) hx e]
  · obtain ⟨t, ht⟩ := hR k h1
    exact be_lt_en (r := rwX σ t k) hm ht b2
/-! both go the same way -/
theorem bsF_L {p : Nat → Bool} {bt : Nat → Nat → Bool} : ∀ (n k : Nat) (b : Option Nat), bsF p bt k n b = bsL p bt (List.range' k n) b
  | 0, _, _ => rfl
  | n + 1, k, b => by rw [bsF, List.range'_succ, bsL, bsF_L n (k + 1)]
theorem bsL_best {p : Nat → Bool} {bt : Nat → Nat → Bool} (P : Nat → Prop) (htr : ∀ a b c, P a → P b → P c → bt a b = true → bt b c = true → bt a c = true) (hto : ∀ a b, P a → P b → bt a b = false → a = b ∨ bt b a = true) : ∀ (l : List Nat) (acc : Option Nat), (∀ a, a ∈ l → p a = true → P a) → (∀ a, acc = some a → P a) → (bsL p bt l acc = none → acc = none ∧ ∀ a, a ∈ l → p a = false) ∧ (∀ r, bsL p bt l acc = some r → P r ∧ (acc = some r ∨ (r ∈ l ∧ p r = true)) ∧ (∀ c, acc = some c → c = r ∨ bt r c = true) ∧ (∀ a, a ∈ l → p a = true → a = r ∨ bt r a = true))
  | [], acc, _, hA => by
    refine ⟨fun h => ⟨h, fun a ha => (by cases ha)⟩, fun r h => ⟨hA r h, Or.inl h, fun c hc => ?_, fun a ha => (by cases ha)⟩⟩
    have h' : acc = some r := h
    rw [h'] at hc
    exact Or.inl (Option.some.inj hc).symm
  | a :: l, acc, hP, hA => by
    rw [bsL]
    have hPl : ∀ b, b ∈ l → p b = true → P b := fun b hb => hP b (List.mem_cons_of_mem _ hb)
    cases hp : p a with
    | false =>
      simp only [Bool.false_eq_true, if_false]
      obtain ⟨i1, i2⟩ := bsL_best P htr hto l acc hPl hA
      refine ⟨fun h => ?_, fun r h => ?_⟩
      · obtain ⟨e1, e2⟩ := i1 h
        refine ⟨e1, fun b hb => ?_⟩
        rcases List.mem_cons.mp hb with q | q
        · rw [q]; exact hp
        · exact e2 b q
      · obtain ⟨e0, e1, e2, e3⟩ := i2 r h
        refine ⟨e0, e1.imp id (fun q => ⟨List.mem_cons_of_mem _ q.1, q.2⟩), e2, fun b hb hpb => ?_⟩
        rcases List.mem_cons.mp hb with q | q
        · rw [q, hp] at hpb; cases hpb
        · exact e3 b q hpb
    | true =>
      simp only [if_true]
      have ha := hP a (List.mem_cons_self ..) hp
      obtain ⟨m, em, hm1, hm2, hm3, hPm⟩ : ∃ m, pk2 bt a acc = some m ∧ (m = a ∨ acc = some m) ∧ (a = m ∨ bt m a = true) ∧ (∀ c, acc = some c → c = m ∨ bt m c = true) ∧ P m := by
        cases acc with
        | none => exact ⟨a, rfl, Or.inl rfl, Or.inl rfl, fun c hc => (by cases hc), ha⟩
        | some c =>
          simp only [pk2]
          cases hb : bt a c with
          | true => exact ⟨a, by simp, Or.inl rfl, Or.inl rfl, fun d hd => by cases hd; exact Or.inr hb, ha⟩
          | false =>
            refine ⟨c, by simp, Or.inr rfl, hto a c ha (hA c rfl) hb, fun d hd => by cases hd; exact Or.inl rfl, hA c rfl⟩
      obtain ⟨i1, i2⟩ := bsL_best P htr hto l (some m) hPl (fun d hd => by cases hd; exact hPm)
      rw [em]
      refine ⟨fun h => ?_, fun r h => ?_⟩
      · exact absurd (i1 h).1 (Option.some_ne_none m)
      · obtain ⟨e0, e1, e2, e3⟩ := i2 r h
        have up : ∀ c, P c → (c = m ∨ bt m c = true) → c = r ∨ bt r c = true := fun c hc q => by
          rcases e2 m rfl with g | g
          · rw [← g]; exact q
          · rcases q with q | q
            · rw [q]; exact Or.inr g
            · exact Or.inr (htr r m c e0 hPm hc g q)
        refine ⟨e0, ?_, fun c hc => up c (hA c hc) (hm3 c hc), fun b hb hpb => ?_⟩
        · rcases e1 with q | q
          · cases q
            rcases hm1 with g | g
            · rw [g]; exact Or.inr ⟨List.mem_cons_self .., hp⟩
            · exact Or.inl g
          · exact Or.inr ⟨List.mem_cons_of_mem _ q.1, q.2⟩
        · rcases List.mem_cons.mp hb with q | q
          · rw [q]; exact up a ha hm2
          · exact e3 b q hpb
theorem btR_tr {mv : Nat → Int64} {r q s : Rw} (h : btR mv r q = true) (g : btR mv q s = true) : btR mv r s = true := by
  unfold btR at h g ⊢
  rw [decide_eq_true_eq] at h g ⊢
  rcases h with h | ⟨h1, h2⟩ <;> rcases g with g | ⟨g1, g2⟩
  · exact Or.inl (Int64.lt_trans g h)
  · rw [← g1]; exact Or.inl h
  · rw [h1]; exact Or.inl g
  · exact Or.inr ⟨h1.trans g1, Int32.lt_trans h2 g2⟩
theorem btR_as {mv : Nat → Int64} {r q : Rw} (h : btR mv r q = true) (g : btR mv q r = true) : False := by
  have := btR_tr h g
  unfold btR at this
  rw [decide_eq_true_eq] at this
  rcases this with q | q
  · exact Int64.lt_irrefl q
  · exact Int32.lt_irrefl q.2
theorem btR_to {mv : Nat → Int64} {r q : Rw} (h : btR mv r q = false) : rN r = rN q ∨ btR mv q r = true := by
  unfold btR at h ⊢
  rw [decide_eq_false_iff_not] at h
  rw [decide_eq_true_eq]
  rcases Int64.lt_or_le (enR mv r) (enR mv q) with g | g
  · exact Or.inr (Or.inl g)
  · rcases Int64.lt_or_eq_of_le g with g | g
    · exact absurd (Or.inl g) h
    · rcases Int32.lt_or_le (rN q) (rN r) with k | k
      · exact Or.inr (Or.inr ⟨g, k⟩)
      · rcases Int32.lt_or_eq_of_le k with k | k
        · exact absurd (Or.inr ⟨g.symm, k⟩) h
        · exact Or.inl k
section
variable {σ : Sto} {S t : Nat} {l J : List Nat}
theorem TC.nx (h : TC σ S t l J) (hn : l.Nodup) {x a : Nat} (hr : rl σ t l J x a) (c f : Int64) : (nxM σ S x c f = none ∧ nxX σ l (gl σ 86) a c f = none) ∨ (∃ k b, nxM σ S x c f = some k ∧ nxX σ l (gl σ 86) a c f = some b ∧ rl σ t l J k b) := by
  have eEl : ∀ k b, rl σ t l J k b → elM σ S x c f k = elX σ l (gl σ 86) (gi σ a 0) c f b := fun k b hk => by
    unfold elM elX
    rw [h.ki hk hr, hk.2.2]
    rfl
  have eBt : ∀ k b k' b', rl σ t l J k b → rl σ t l J k' b' → btM σ k k' = btX σ (gl σ 86) b b' := fun k b k' b' h1 h2 => by
    unfold btM btX
    rw [h1.2.2, h2.2.2]
    rfl
  have inJ : ∀ k, k < S → elM σ S x c f k = true → k ∈ J := fun k hk e => by
    unfold elM kiB at e
    rw [Bool.and_eq_true, decide_eq_true_eq] at e
    exact (h.1.2.1 k).mpr ⟨hk, e.1.1.trans (h.tr hr)⟩
  have bX := bsL_best (p := elX σ l (gl σ 86) (gi σ a 0) c f) (bt := btX σ (gl σ 86)) (fun b => b ∈ l) (fun a b c _ _ _ h1 h2 => btR_tr h1 h2) (fun b b' hb hb' e => by
    rcases btR_to e with q | q
    · exact Or.inl (h.2.1 b b' hb hb' q)
    · exact Or.inr q) l none (fun b hb _ => hb) (fun b hb => by cases hb)
  have bM := bsL_best (p := elM σ S x c f) (bt := btM σ) (fun k => k ∈ J) (fun a b c _ _ _ h1 h2 => btR_tr h1 h2) (fun k k' hk hk' e => by
    obtain ⟨b, hb⟩ := h.ofM hk
    obtain ⟨b', hb'⟩ := h.ofM hk'
    rcases btR_to e with q | q
    · rw [h.no hb, h.no hb'] at q
      have := h.2.1 b b' hb.2.1 hb'.2.1 q
      subst this
      exact Or.inl (h.uM' hn hb hb')
    · exact Or.inr q) (List.range' 0 S) none (fun k hk e => inJ k (by have := List.mem_range'_1.mp hk; omega) e) (fun b hb => by cases hb)
  unfold nxM nxX
  rw [bsF_L]
  cases hX : bsL (elX σ l (gl σ 86) (gi σ a 0) c f) (btX σ (gl σ 86)) l none with
  | none =>
    obtain ⟨-, e2⟩ := bX.1 hX
    cases hM : bsL (elM σ S x c f) (btM σ) (List.range' 0 S) none with
    | none => exact Or.inl ⟨rfl, rfl⟩
    | some k =>
      obtain ⟨q1, q2, -, -⟩ := bM.2 k hM
      obtain ⟨b, hb⟩ := h.ofM q1
      rcases q2 with q | q
      · cases q
      · have := e2 b hb.2.1
        rw [← eEl k b hb, q.2] at this
        cases this
  | some b =>
    obtain ⟨q1, q2, -, q4⟩ := bX.2 b hX
    have pb : elX σ l (gl σ 86) (gi σ a 0) c f b = true := by
      rcases q2 with q | q
      · cases q
      · exact q.2
    obtain ⟨kb, hkb⟩ := h.ofX q1
    have pk : elM σ S x c f kb = true := by rw [eEl kb b hkb]; exact pb
    have kr : kb ∈ List.range' 0 S := List.mem_range'_1.mpr ⟨by omega, by have := h.lt hkb; omega⟩
    cases hM : bsL (elM σ S x c f) (btM σ) (List.range' 0 S) none with
    | none =>
      have := (bM.1 hM).2 kb kr
      rw [pk] at this; cases this
    | some k =>
      obtain ⟨m1, m2, -, m4⟩ := bM.2 k hM
      obtain ⟨b', hb'⟩ := h.ofM m1
      have pk' : elX σ l (gl σ 86) (gi σ a 0) c f b' = true := by
        rw [← eEl k b' hb']
        rcases m2 with q | q
        · cases q
        · exact q.2
      refine Or.inr ⟨k, b, rfl, rfl, ?_⟩
      rcases q4 b' hb'.2.1 pk' with g | g
      · rw [← g]; exact hb'
      · rcases m4 kb kr pk with g2 | g2
        · rw [← g2]; exact hkb
        · rw [eBt k b' kb b hb' hkb] at g2
          exact (btR_as g g2).elim
theorem wk_same {nx1 nx2 : Nat → Int64 → Int64 → Option Nat} {B1 B2 E1 E2 : Nat → Int64} (Rr : Nat → Nat → Prop) {F1 F2 : Nat → Rw} (h1 : ∀ x a c f, Rr x a → (nx1 x c f = none ∧ nx2 a c f = none) ∨ (∃ k b, nx1 x c f = some k ∧ nx2 a c f = some b ∧ Rr k b)) (h2 : ∀ x a, Rr x a → B1 x = B2 a ∧ E1 x = E2 a ∧ F1 x = F2 a) : ∀ (n x a : Nat) (c f : Int64), Rr x a → (wkO nx1 B1 E1 n x c f = none ∧ wkO nx2 B2 E2 n a c f = none) ∨ (∃ l1 l2, wkO nx1 B1 E1 n x c f = some l1 ∧ wkO nx2 B2 E2 n a c f = some l2 ∧ l1.map (fun q => (F1 q.1, q.2)) = l2.map (fun q => (F2 q.1, q.2))) := by
  intro n
  induction n with
  | zero => intro x a c f _; exact Or.inl ⟨rfl, rfl⟩
  | succ n ih =>
    intro x a c f hr
    unfold wkO
    by_cases h0 : c ≤ f
    · rw [if_pos h0, if_pos h0]; exact Or.inr ⟨[], [], rfl, rfl, rfl⟩
    · rw [if_neg h0, if_neg h0]
      obtain ⟨eb, ee, eF⟩ := h2 x a hr
      rcases h1 x a c f hr with ⟨g1, g2⟩ | ⟨k, b, g1, g2, g3⟩
      · rw [g1, g2]
        refine Or.inr ⟨_, _, rfl, rfl, ?_⟩
        simp [eF]
      · rw [g1, g2]
        obtain ⟨kb, ke, -⟩ := h2 k b g3
        simp only
        rw [ke, kb]
        rcases ih k b (E2 b) (mxL (B2 b) f) g3 with ⟨w1, w2⟩ | ⟨l1, l2, w1, w2, w3⟩
        · rw [w1, w2]; exact Or.inl ⟨rfl, rfl⟩
        · rw [w1, w2]
          rcases ih x a (mxL (B2 b) f) f hr with ⟨v1, v2⟩ | ⟨m1, m2, v1, v2, v3⟩
          · rw [v1, v2]; exact Or.inl ⟨rfl, rfl⟩
          · rw [v1, v2]
            refine Or.inr ⟨_, _, rfl, rfl, ?_⟩
            rw [List.map_append, List.map_append, List.map_append, List.map_append, w3, v3]
            congr 1
            split
            · simp [eF]
            · rfl
theorem TC.wk (h : TC σ S t l J) (hn : l.Nodup) {x a : Nat} (hr : rl σ t l J x a) {n : Nat} {lw : List (Nat × Int64 × Int64)} (hw : wkX σ l (gl σ 86) n a = some lw) : ∃ lm, wkM σ S n x = some lm ∧ lm.map (fun q => (rwM σ q.1, q.2)) = lw.map (fun q => (rwX σ (nI t) q.1, q.2)) ∧ (∀ q, q ∈ lm → q.1 ∈ J) := by
  have hbe : ∀ y b, rl σ t l J y b → beR (gl σ 86) (rwM σ y) = beR (gl σ 86) (rwX σ 0 b) ∧ enR (gl σ 86) (rwM σ y) = enR (gl σ 86) (rwX σ 0 b) ∧ rwM σ y = rwX σ (nI t) b := fun y b q => by rw [q.2.2]; exact ⟨rfl, rfl, rfl⟩
  have e := wk_same (rl σ t l J) (F1 := rwM σ) (F2 := rwX σ (nI t)) (nx1 := nxM σ S) (nx2 := nxX σ l (gl σ 86)) (B1 := fun k => beR (gl σ 86) (rwM σ k)) (B2 := fun b => beR (gl σ 86) (rwX σ 0 b)) (E1 := fun k => enR (gl σ 86) (rwM σ k)) (E2 := fun b => enR (gl σ 86) (rwX σ 0 b)) (fun y b c f q => h.nx hn q c f) hbe n x a (enR (gl σ 86) (rwM σ x)) (beR (gl σ 86) (rwM σ x)) hr
  unfold wkX at hw
  unfold wkM
  rcases e with ⟨e1, e2⟩ | ⟨l1, l2, e1, e2, e3⟩
  · rw [(hbe x a hr).1, (hbe x a hr).2.1] at e2
    rw [hw] at e2; cases e2
  · rw [(hbe x a hr).1, (hbe x a hr).2.1] at e2
    rw [hw] at e2
    cases e2
    refine ⟨l1, e1, e3, ?_⟩
    exact wkO_in (P := fun k => k ∈ J) (fun y c f k hy hk => by
      obtain ⟨b, hb⟩ := h.ofM hy
      rcases h.nx hn hb c f with ⟨q1, -⟩ | ⟨k', b', q1, -, q3⟩
      · rw [q1] at hk; cases hk
      · rw [q1] at hk; cases hk; exact q3.1) n x _ _ l1 hr.1 e1
theorem an_share (h : TC σ S t l J) (hn : l.Nodup) {k a : Nat} (hr : rl σ t l J k a) : ∀ (lm lw : List (Nat × Int64 × Int64)) (s : Int64), lm.map (fun q => (rwM σ q.1, q.2)) = lw.map (fun q => (rwX σ (nI t) q.1, q.2)) → (∀ q, q ∈ lm → q.1 ∈ J) → shS k lm s = lnS (gi σ a 0) (lw.map (ptX0 σ)) s
  | [], [], _, _, _ => rfl
  | [], q :: lw, _, e, _ => by simp at e
  | q :: lm, [], _, e, _ => by simp at e
  | q :: lm, w :: lw, s, e, hJ => by
    rw [List.map_cons, List.map_cons, List.cons.injEq, Prod.mk.injEq] at e
    obtain ⟨⟨e1, e2⟩, e3⟩ := e
    rw [List.map_cons, shS, lnS]
    have hq := hJ q (List.mem_cons_self ..)
    obtain ⟨b, hb⟩ := h.ofM hq
    have n1 : rN (rwM σ q.1) = gi σ w.1 0 := by rw [e1]; rfl
    have ec : (q.1 = k) ↔ (gi σ w.1 0 = gi σ a 0) := by
      rw [← n1, h.no hb]
      constructor
      · intro g
        rw [g] at hb
        rw [h.uX' hr hb]
      · intro g
        have := h.2.1 b a hb.2.1 hr.2.1 g
        rw [this] at hb
        exact h.uM' hn hb hr
    have ed : (s + if q.1 = k then q.2.2 - q.2.1 else 0) = (s + if (ptX0 σ w).1 = gi σ a 0 then (ptX0 σ w).2.2.2 - (ptX0 σ w).2.2.1 else 0) := by
      have e4 : (ptX0 σ w).1 = gi σ w.1 0 := rfl
      have e5 : (ptX0 σ w).2.2 = w.2 := rfl
      rw [e4, e5, e2]
      by_cases g : q.1 = k
      · rw [if_pos g, if_pos (ec.mp g)]
      · rw [if_neg g, if_neg (fun q => g (ec.mpr q))]
    rw [ed]
    exact an_share h hn hr lm lw _ e3 (fun q hq => hJ q (List.mem_cons_of_mem _ hq))
end
theorem an_path {σ : Sto} {t : Nat} {lm lw : List (Nat × Int64 × Int64)} (e : lm.map (fun q => (rwM σ q.1, q.2)) = lw.map (fun q => (rwX σ (nI t) q.1, q.2))) : ptO σ lm = phX σ lw := by
  unfold ptO phX
  have e2 := congrArg (fun m => (m.map (fun p : Rw × Int64 × Int64 => plR p.1)).reverse) e
  simp only [List.map_map] at e2
  rw [List.map_reverse, List.map_reverse]
  congr 1
theorem an_told {σ : Sto} {t : Nat} {lm lw : List (Nat × Int64 × Int64)} (e : lm.map (fun q => (rwM σ q.1, q.2)) = lw.map (fun q => (rwX σ (nI t) q.1, q.2))) : lm.reverse.map (fun q => (rN (rwM σ q.1), q.2)) = (lw.map (ptX0 σ)).reverse.map (fun q => (q.1, q.2.2.1, q.2.2.2)) := by
  have e2 := congrArg (fun m => (m.map (fun p : Rw × Int64 × Int64 => (rN p.1, p.2))).reverse) e
  simp only [List.map_map] at e2
  rw [List.map_reverse, List.map_reverse, List.map_map]
  exact e2
