/-! the order of a trace's spans -/
theorem ahB_asym {r q : Rw} (h : ahB r q = true) : ahB q r = false := by
  unfold ahB at h ⊢
  rw [decide_eq_true_eq] at h
  rw [decide_eq_false_iff_not]
  intro g
  rcases h with h | ⟨h1, h2⟩ <;> rcases g with g | ⟨g1, g2⟩
  · exact Int64.lt_asymm h g
  · rw [g1] at h; exact Int64.lt_irrefl h
  · rw [h1] at g; exact Int64.lt_irrefl g
  · exact Int32.lt_asymm h2 g2
theorem ahB_irr (r : Rw) : ahB r r = false := by
  cases h : ahB r r with
  | false => rfl
  | true => rw [ahB_asym h] at h; cases h
theorem ahB_trans {r q s : Rw} (h : ahB r q = true) (g : ahB q s = true) : ahB r s = true := by
  unfold ahB at h g ⊢
  rw [decide_eq_true_eq] at h g ⊢
  rcases h with h | ⟨h1, h2⟩ <;> rcases g with g | ⟨g1, g2⟩
  · exact Or.inl (Int64.lt_trans h g)
  · rw [← g1]; exact Or.inl h
  · rw [h1]; exact Or.inl g
  · exact Or.inr ⟨h1.trans g1, Int32.lt_trans h2 g2⟩
theorem ahB_total {r q : Rw} (h : ¬ rN r = rN q) : ahB r q = true ∨ ahB q r = true := by
  unfold ahB
  rw [decide_eq_true_eq, decide_eq_true_eq]
  rcases Int64.lt_or_le (rB r) (rB q) with g | g
  · exact Or.inl (Or.inl g)
  · rcases Int64.lt_or_eq_of_le g with g | g
    · exact Or.inr (Or.inl g)
    · rcases Int32.lt_or_le (rN r) (rN q) with k | k
      · exact Or.inl (Or.inr ⟨g.symm, k⟩)
      · rcases Int32.lt_or_eq_of_le k with k | k
        · exact Or.inr (Or.inr ⟨g, k⟩)
        · exact absurd k.symm h
def SO (σ : Sto) (l : List Nat) : Prop := l.Pairwise (fun a b => ahX σ a b = true)
theorem SO.p {σ : Sto} {l : List Nat} (h : SO σ l) : l.Pairwise (fun a b => ahX σ a b = true ∧ ahX σ b a = false) := h.imp (fun {a b} q => ⟨q, ahB_asym q⟩)
theorem atL_full {q : Nat → Bool} {A : Nat → Nat → Bool} : ∀ {l : List Nat} {i : Int32}, l.length < 2 ^ 31 → l.Pairwise (fun a b => A a b = true ∧ A b a = false) → (∀ a, a ∈ l → A a a = false) → ∀ a, a ∈ l → q a = true → nI (l.countP (fun b => q b && A b a)) = i → atL q i l = some a
  | [], i, _, _, _, a, h, _, _ => by cases h
  | c :: l, i, hl, hp, hi, a, ha, hq, hc => by
    rw [List.pairwise_cons] at hp
    rw [List.length_cons] at hl
    obtain ⟨hp1, hp2⟩ := hp
    have hi2 : ∀ a, a ∈ l → A a a = false := fun a ha => hi a (List.mem_cons_of_mem _ ha)
    rcases List.mem_cons.mp ha with ea | ea
    · subst ea
      have cc : (a :: l).countP (fun b => q b && A b a) = 0 := by
        rw [List.countP_eq_zero]
        intro b hb
        rcases List.mem_cons.mp hb with e | e
        · subst e; simp [hi b (List.mem_cons_self ..)]
        · simp [(hp1 b e).2]
      rw [cc, nI_0] at hc
      rw [atL, hq, if_pos rfl, if_pos hc.symm]
    · rw [List.countP_cons, (hp1 a ea).1, Bool.and_true] at hc
      have hle : l.countP (fun b => q b && A b a) ≤ l.length := List.countP_le_length
      cases hqc : q c with
      | false =>
        rw [hqc] at hc
        rw [atL, hqc]
        exact atL_full (by omega) hp2 hi2 a ea hq (by simpa using hc)
      | true =>
        rw [hqc, if_pos rfl] at hc
        have h0 : ¬ i = 0 := by rw [← hc]; exact nI_ne0 (by omega) (by omega)
        rw [atL, hqc, if_pos rfl, if_neg h0]
        exact atL_full (by omega) hp2 hi2 a ea hq (by rw [← hc, pk_m1])
section
variable {σ : Sto} {S t : Nat} {l J : List Nat}
theorem TC.at_ (h : TC σ S t l J) (hs : SO σ l) (hl : l.length < 2 ^ 31) {p q : Nat → Bool} (h1 : ∀ k a, rl σ t l J k a → p k = q a) (h2 : ∀ k, k < S → ¬ rT (rwM σ k) = nI t → p k = false) (i : Int32) : (fnd (fun k => p k && decide (nI (cnt (fun j => p j && ahB (rwM σ j) (rwM σ k)) 0 S) = i)) 0 S = none ∧ atL q i l = none) ∨ (∃ k a, fnd (fun k => p k && decide (nI (cnt (fun j => p j && ahB (rwM σ j) (rwM σ k)) 0 S) = i)) 0 S = some k ∧ atL q i l = some a ∧ rl σ t l J k a) := by
  have hi : ∀ a, a ∈ l → ahX σ a a = false := fun a _ => ahB_irr _
  have hc : ∀ k a, rl σ t l J k a → cnt (fun j => p j && ahB (rwM σ j) (rwM σ k)) 0 S = l.countP (fun b => q b && ahX σ b a) := fun k a hr =>
    h.cn (fun j b hj => by rw [h1 j b hj, h.ah hj hr]) (fun j hj e => by rw [h2 j hj e, Bool.false_and])
  cases hf : fnd (fun k => p k && decide (nI (cnt (fun j => p j && ahB (rwM σ j) (rwM σ k)) 0 S) = i)) 0 S with
  | none =>
    refine Or.inl ⟨rfl, ?_⟩
    cases ha : atL q i l with
    | none => rfl
    | some a =>
      obtain ⟨k1, k2, k3⟩ := (atL_spec (q := q) (A := ahX σ) hl hs.p hi).1 a ha
      obtain ⟨k, hr⟩ := h.ofX k1
      have := fnd_none hf k (by omega) (by have := h.lt hr; omega)
      rw [h1 k a hr, k2, hc k a hr, k3] at this
      simp at this
  | some k =>
    obtain ⟨-, hk, hp⟩ := fnd_lt _ _ _ _ hf
    rw [Bool.and_eq_true, decide_eq_true_eq] at hp
    have hT : rT (rwM σ k) = nI t := by
      refine Classical.byContradiction (fun e => ?_)
      rw [h2 k (by omega) e] at hp
      exact absurd hp.1 (by simp)
    obtain ⟨a, hr⟩ := h.ofM ((h.1.2.1 k).mpr ⟨by omega, hT⟩)
    rw [h1 k a hr, hc k a hr] at hp
    exact Or.inr ⟨k, a, rfl, atL_full hl hs.p hi a hr.2.1 hp.1 hp.2, hr⟩
theorem TC.rob (h : TC σ S t l J) {k a : Nat} (hr : rl σ t l J k a) : roB σ S (nI t) k = roX σ l a := by
  unfold roB roX
  rw [h.tr hr, decide_eq_decide, roI_self, h.un hr]
  exact ⟨fun q => q.2, fun q => ⟨rfl, q⟩⟩
theorem TC.root (h : TC σ S t l J) (hs : SO σ l) (hl : l.length < 2 ^ 31) (i : Int32) : (fnd (raB σ S (nI t) i) 0 S = none ∧ atL (roX σ l) i l = none) ∨ (∃ k a, fnd (raB σ S (nI t) i) 0 S = some k ∧ atL (roX σ l) i l = some a ∧ rl σ t l J k a) :=
  h.at_ hs hl (p := roB σ S (nI t)) (fun k a hr => h.rob hr) (fun k _ e => by unfold roB; simp [e]) i
theorem TC.kid (h : TC σ S t l J) (hs : SO σ l) (hl : l.length < 2 ^ 31) {o b : Nat} (hb : rl σ t l J o b) (i : Int32) : (fnd (kaB σ S o i) 0 S = none ∧ atL (kiX σ l (gi σ b 0)) i l = none) ∨ (∃ k a, fnd (kaB σ S o i) 0 S = some k ∧ atL (kiX σ l (gi σ b 0)) i l = some a ∧ rl σ t l J k a) :=
  h.at_ hs hl (p := kiB σ S o) (fun k a hr => h.ki hr hb) (fun k _ e => by unfold kiB; rw [h.tr hb]; simp [e]) i
theorem TC.no (h : TC σ S t l J) {k a : Nat} (hr : rl σ t l J k a) : rN (rwM σ k) = gi σ a 0 := by rw [hr.2.2]; rfl
theorem TC.fn (h : TC σ S t l J) {x : Int32} {a : Nat} (hf : l.find? (nuX σ x) = some a) : gi σ a 0 = x := by
  have := List.find?_some hf
  simpa [nuX] using this
theorem an_kid (h : TC σ S t l J) (hs : SO σ l) (hl : l.length < 2 ^ 31) (x i : Int32) : (match fIx (key (nI t) x) 0 (rws σ 0 S) with
    | none => -1
    | some k => noA σ (fnd (kaB σ S k i) 0 S)) = (match l.find? (nuX σ x) with
    | none => -1
    | some _ => nuO σ (atL (kiX σ l x) i l)) := by
  rcases h.f x with ⟨h1, h2⟩ | ⟨k, a, h1, h2, h3⟩
  · rw [h1, h2]
  · rw [h1, h2]
    have e := h.fn h2
    simp only
    rcases h.kid hs hl h3 i with ⟨g1, g2⟩ | ⟨k', a', g1, g2, g3⟩
    · rw [g1, ← e, g2]; rfl
    · rw [g1, ← e, g2]; exact h.no g3
theorem an_root (h : TC σ S t l J) (hs : SO σ l) (hl : l.length < 2 ^ 31) (i : Int32) : noA σ (fnd (raB σ S (nI t) i) 0 S) = nuO σ (atL (roX σ l) i l) := by
  rcases h.root hs hl i with ⟨g1, g2⟩ | ⟨k', a', g1, g2, g3⟩
  · rw [g1, g2]; rfl
  · rw [g1, g2]; exact h.no g3
theorem an_span (h : TC σ S t l J) (x w : Int32) : (match fIx (key (nI t) x) 0 (rws σ 0 S) with
    | none => -1
    | some k => spA σ S k w) = (match l.find? (nuX σ x) with
    | none => -1
    | some a => spX σ l x a w) := by
  rcases h.f x with ⟨h1, h2⟩ | ⟨k, a, h1, h2, h3⟩
  · rw [h1, h2]
  · rw [h1, h2]
    have e := h.fn h2
    simp only
    unfold spA spX
    have ec : cnt (kiB σ S k) 0 S = l.countP (kiX σ l x) := by
      rw [← e]
      exact h.cn (fun j b hj => h.ki hj h3) (fun j _ q => by unfold kiB; rw [h.tr h3]; simp [q])
    have eh : decide (¬ rP (rwM σ k) = 0 ∧ uM σ S k = none) = hoX σ l a := by
      unfold hoX
      rw [decide_eq_decide, h.un h3, h3.2.2]
      exact Iff.rfl
    rw [ec, eh, h.de h3]
    rcases h.ro h3 with ⟨g1, g2⟩ | ⟨k', a', g1, g2, g3⟩
    · simp only [g1, g2, h3.2.2]
      rfl
    · simp only [g1, g2, h.no g3, h3.2.2]
      rfl
end
/-! holes: as many as there are parents that aren't there -/
theorem nodup_inj {α β : Type} {f : α → β} : ∀ {l : List α}, l.Nodup → (∀ a b, a ∈ l → b ∈ l → f a = f b → a = b) → (l.map f).Nodup
  | [], _, _ => List.nodup_nil
  | c :: l, h, hi => by
    rw [List.nodup_cons] at h
    rw [List.map_cons, List.nodup_cons]
    refine ⟨fun q => ?_, nodup_inj h.2 (fun a b ha hb => hi a b (List.mem_cons_of_mem _ ha) (List.mem_cons_of_mem _ hb))⟩
    obtain ⟨b, hb, e⟩ := List.mem_map.mp q
    have := hi b c (List.mem_cons_of_mem _ hb) (List.mem_cons_self ..) e
    rw [this] at hb
    exact h.1 hb
theorem fpX_find {σ : Sto} {a : Nat} : ∀ {l : List Nat}, a ∈ l → (fpX σ a l = true ↔ l.find? (fun b => decide (gi σ b 1 = gi σ a 1)) = some a)
  | [], h => by cases h
  | b :: l, h => by
    unfold fpX
    by_cases e : b = a
    · subst e
      simp [List.find?_cons]
    · rw [if_neg e]
      by_cases g : gi σ b 1 = gi σ a 1
      · rw [if_pos g, List.find?_cons]
        simp [g, e]
      · rw [if_neg g, List.find?_cons]
        simp only [g, decide_false]
        exact fpX_find (by rcases List.mem_cons.mp h with q | q; exact absurd q.symm e; exact q)
theorem fnd_up {p : Nat → Bool} {k : Nat} (hp : p k = true) : ∀ (n j : Nat), j ≤ k → k < j + n → ((fnd p j (k - j)).isNone = true ↔ fnd p j n = some k)
  | 0, j, h1, h2 => by omega
  | n + 1, j, h1, h2 => by
    by_cases e : j = k
    · subst e
      rw [Nat.sub_self]
      simp [fnd, hp]
    · obtain ⟨m, hm⟩ : ∃ m, k - j = m + 1 := ⟨k - j - 1, by omega⟩
      rw [hm, fnd, fnd]
      cases hj : p j with
      | true => simp; omega
      | false =>
        simp only [Bool.false_eq_true, if_false]
        rw [show m = k - (j + 1) by omega]
        exact fnd_up hp n (j + 1) (by omega) (by omega)
section
variable {σ : Sto} {S t : Nat} {l J : List Nat}
def hoM (σ : Sto) (S : Nat) (k : Nat) : Bool := decide (¬ rP (rwM σ k) = 0 ∧ uM σ S k = none)
theorem hoM_of {k j : Nat} (h1 : rT (rwM σ j) = rT (rwM σ k)) (h2 : rP (rwM σ j) = rP (rwM σ k)) : hoM σ S j = hoM σ S k := by
  unfold hoM uM upI
  rw [h1, h2]
theorem TC.hole (h : TC σ S t l J) (hn : l.Nodup) : cnt (fun k => decide (rT (rwM σ k) = nI t) && (hoM σ S k && (fnd (fhB σ k) 0 k).isNone)) 0 S = l.countP (hfX σ l) := by
  rw [cnt_range, ← List.range_eq_range', List.countP_eq_length_filter, List.countP_eq_length_filter]
  have nM : (((List.range S).filter (fun k => decide (rT (rwM σ k) = nI t) && (hoM σ S k && (fnd (fhB σ k) 0 k).isNone))).map (fun k => rP (rwM σ k))).Nodup := by
    refine nodup_inj (List.nodup_range.sublist List.filter_sublist) (fun a b ha hb e => ?_)
    rw [List.mem_filter, List.mem_range, Bool.and_eq_true, Bool.and_eq_true, decide_eq_true_eq] at ha hb
    have ea := (fnd_up (p := fhB σ a) (k := a) (by simp [fhB]) S 0 (by omega) (by omega)).mp (by simpa using ha.2.2.2)
    have eb := (fnd_up (p := fhB σ b) (k := b) (by simp [fhB]) S 0 (by omega) (by omega)).mp (by simpa using hb.2.2.2)
    have ef : fhB σ a = fhB σ b := by
      funext o
      unfold fhB
      rw [ha.2.1, hb.2.1]
      rw [e]
    rw [ef, eb] at ea
    exact (Option.some.inj ea).symm
  have nX : ((l.filter (hfX σ l)).map (fun a => gi σ a 1)).Nodup := by
    refine nodup_inj (hn.sublist List.filter_sublist) (fun a b ha hb e => ?_)
    rw [List.mem_filter] at ha hb
    unfold hfX at ha hb
    rw [Bool.and_eq_true] at ha hb
    have ea := (fpX_find ha.1).mp ha.2.2
    have eb := (fpX_find hb.1).mp hb.2.2
    rw [e, eb] at ea
    exact (Option.some.inj ea).symm
  have hp := (List.perm_ext_iff_of_nodup nM nX).mpr (fun p => by
    rw [List.mem_map, List.mem_map]
    constructor
    · rintro ⟨k, hk, rfl⟩
      rw [List.mem_filter, List.mem_range, Bool.and_eq_true, Bool.and_eq_true, decide_eq_true_eq] at hk
      obtain ⟨a, hr⟩ := h.ofM ((h.1.2.1 k).mpr ⟨hk.1, hk.2.1⟩)
      have e1 : rP (rwM σ k) = gi σ a 1 := by rw [hr.2.2]; rfl
      have hho : hoX σ l a = true := by
        have := hk.2.2.1
        unfold hoM at this
        unfold hoX
        rw [decide_eq_true_eq] at this ⊢
        rw [← e1, ← h.un hr]
        exact this
      cases hf : l.find? (fun b => decide (gi σ b 1 = gi σ a 1)) with
      | none =>
        rw [List.find?_eq_none] at hf
        exact absurd (by simp) (hf a hr.2.1)
      | some b =>
        have hb := List.mem_of_find?_eq_some hf
        have eb := List.find?_some hf
        rw [decide_eq_true_eq] at eb
        refine ⟨b, ?_, by rw [eb, e1]⟩
        rw [List.mem_filter]
        refine ⟨hb, ?_⟩
        unfold hfX
        rw [Bool.and_eq_true]
        refine ⟨?_, (fpX_find hb).mpr (by rw [eb]; exact hf)⟩
        unfold hoX at hho ⊢
        rw [uX_eq (h.2.2.2 b hb), eb, ← uX_eq (h.2.2.2 a hr.2.1)]
        exact hho
    · rintro ⟨a, ha, rfl⟩
      rw [List.mem_filter] at ha
      obtain ⟨k, hr⟩ := h.ofX ha.1
      have e1 : rP (rwM σ k) = gi σ a 1 := by rw [hr.2.2]; rfl
      have hk := h.lt hr
      have hho : hoM σ S k = true := by
        have := ha.2
        unfold hfX hoX at this
        rw [Bool.and_eq_true, decide_eq_true_eq] at this
        unfold hoM
        rw [decide_eq_true_eq, e1, h.un hr]
        exact this.1
      cases hf : fnd (fhB σ k) 0 S with
      | none => exact absurd (fnd_none hf k (by omega) (by omega)) (by simp [fhB])
      | some j =>
        obtain ⟨-, hj, hq⟩ := fnd_lt _ _ _ _ hf
        have hq' := hq
        unfold fhB at hq'
        rw [decide_eq_true_eq] at hq'
        refine ⟨j, ?_, by rw [hq'.2, e1]⟩
        rw [List.mem_filter, List.mem_range, Bool.and_eq_true, Bool.and_eq_true, decide_eq_true_eq]
        refine ⟨by omega, hq'.1.trans (h.tr hr), by rw [hoM_of hq'.1 hq'.2]; exact hho, ?_⟩
        have ef : fhB σ j = fhB σ k := by
          funext o
          unfold fhB
          rw [hq'.1, hq'.2]
        have := (fnd_up (p := fhB σ j) (k := j) (by simp [fhB]) S 0 (by omega) (by omega)).mpr (by rw [ef]; exact hf)
        simpa using this)
  have := hp.length_eq
  simpa using this
theorem TC.pa (h : TC σ S t l J) {k a : Nat} (hr : rl σ t l J k a) : paB σ S k = prX σ l a := by
  unfold paB prX paX
  rcases h.u hr with ⟨g1, g2⟩ | ⟨k', a', g1, g2, g3⟩
  · rw [g1, g2]
  · rw [g1, g2]
    simp only
    rw [hr.2.2, g3.2.2]
    rfl
theorem an_trace (h : TC σ S t l J) (hn : l.Nodup) {w s : Int32} (hw : w = 0 ∨ w = 1 ∨ w = 2 ∨ w = 3) : nI (cnt (trB σ S (nI t) w) 0 S) = trX σ l w s := by
  have off : ∀ k, k < S → ¬ rT (rwM σ k) = nI t → trB σ S (nI t) w k = false := fun k _ e => by unfold trB; simp [e]
  rcases hw with rfl | rfl | rfl | rfl
  · unfold trX
    rw [if_pos rfl, h.cn (q := roX σ l) (fun k a hr => ?_) off]
    rw [← h.rob hr]
    unfold trB roB
    simp
  · unfold trX
    rw [if_neg (by decide), if_pos rfl, ← h.hole hn]
    rfl
  · unfold trX
    rw [if_neg (by decide), if_neg (by decide), if_pos rfl, h.cn (q := loX σ l) (fun k a hr => ?_) off]
    unfold trB loX
    rw [h.tr hr]
    simp only [decide_true, Bool.true_and, show ¬ (2 : Int32) = 0 by decide, show ¬ (2 : Int32) = 1 by decide, if_false, if_true]
    rw [Bool.eq_iff_iff, Option.isNone_iff_eq_none, decide_eq_true_eq]
    exact h.ron hr
  · unfold trX
    rw [if_neg (by decide), if_neg (by decide), if_neg (by decide), if_pos rfl, h.cn (q := prX σ l) (fun k a hr => ?_) off]
    unfold trB
    rw [h.tr hr]
    simp only [decide_true, Bool.true_and, show ¬ (3 : Int32) = 0 by decide, show ¬ (3 : Int32) = 1 by decide, show ¬ (3 : Int32) = 2 by decide, if_false]
    exact h.pa hr
end
