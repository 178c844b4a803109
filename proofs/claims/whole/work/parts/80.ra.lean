/-! lists -/
theorem rws_range (σ : Sto) : ∀ n k, rws σ k n = (List.range' k n).map (rwM σ)
  | 0, _ => rfl
  | n + 1, k => by rw [rws, List.range'_succ, List.map_cons, rws_range σ n (k + 1)]
theorem cnt_range (p : Nat → Bool) : ∀ n k, cnt p k n = (List.range' k n).countP p
  | 0, _ => rfl
  | n + 1, k => by
    rw [cnt, List.range'_succ, List.countP_cons, cnt_range p n (k + 1), Nat.add_comm]
theorem itr_range {α : Type} (f : Nat → α → α) : ∀ n k a, itr f k n a = (List.range' k n).foldl (fun a k => f k a) a
  | 0, _, _ => rfl
  | n + 1, k, a => by rw [itr, List.range'_succ, List.foldl_cons, itr_range f n (k + 1)]
theorem fIx_none {p : Rw → Bool} : ∀ {l : List Rw} {k : Nat}, fIx p k l = none → ∀ r, r ∈ l → p r = false
  | [], _, _, r, hr => by cases hr
  | a :: l, k, h, r, hr => by
    unfold fIx at h
    split at h
    · cases h
    · rename_i hp
      rcases List.mem_cons.mp hr with e | e
      · rw [e]; simpa using hp
      · exact fIx_none h r e
theorem fIx_rws {σ : Sto} {S k : Nat} {p : Rw → Bool} (h : fIx p 0 (rws σ 0 S) = some k) : k < S ∧ p (rwM σ k) = true := by
  have h1 := fIx_lt _ _ _ _ h
  rw [rws_len] at h1
  obtain ⟨r, h2, h3⟩ := fIx_some h
  rw [rws_get σ S 0 (k - 0) (by omega)] at h2
  simp only [Nat.sub_zero, Nat.zero_add, Option.some.injEq] at h2
  exact ⟨by omega, by rw [h2]; exact h3⟩
theorem rws_mem {σ : Sto} {S : Nat} {r : Rw} : r ∈ rws σ 0 S ↔ ∃ k, k < S ∧ rwM σ k = r := by
  rw [rws_range, List.mem_map]
  exact ⟨fun ⟨k, hk, e⟩ => ⟨k, by simpa using hk, e⟩, fun ⟨k, hk, e⟩ => ⟨k, by simpa using hk, e⟩⟩
theorem inj_nodup {α β : Type} {f : α → β} : ∀ {l : List α}, (l.map f).Nodup → ∀ a b, a ∈ l → b ∈ l → f a = f b → a = b
  | [], _, a, _, ha, _, _ => by cases ha
  | c :: l, h, a, b, ha, hb, e => by
    rw [List.map_cons, List.nodup_cons] at h
    rcases List.mem_cons.mp ha with ea | ea <;> rcases List.mem_cons.mp hb with eb | eb
    · rw [ea, eb]
    · subst ea; exact absurd (List.mem_map.mpr ⟨b, eb, e.symm⟩) h.1
    · subst eb; exact absurd (List.mem_map.mpr ⟨a, ea, e⟩) h.1
    · exact inj_nodup h.2 a b ea eb e
theorem perm_map_inv {β : Type} {f : Nat → β} : ∀ {m : List β} {l : List Nat}, (l.map f).Perm m → ∃ l' : List Nat, l'.Perm l ∧ l'.map f = m
  | [], l, h => by
    have := h.eq_nil
    rw [List.map_eq_nil_iff] at this
    exact ⟨[], by rw [this], rfl⟩
  | b :: m, l, h => by
    obtain ⟨a, ha, e⟩ := List.mem_map.mp (h.mem_iff.mpr (List.mem_cons_self ..))
    have h1 := List.perm_cons_erase ha
    have h2 : (b :: (l.erase a).map f).Perm (b :: m) := by
      rw [← e, ← List.map_cons]
      rw [← e] at h
      exact (h1.map f).symm.trans h
    obtain ⟨l', h3, h4⟩ := perm_map_inv h2.cons_inv
    exact ⟨a :: l', (h3.cons a).trans h1.symm, by rw [List.map_cons, h4, e]⟩
theorem al_count {α β γ : Type} {f : α → γ} {g : β → γ} {p : α → Bool} {q : β → Bool} : ∀ {J : List α} {l : List β}, J.map f = l.map g → (∀ k a, k ∈ J → a ∈ l → f k = g a → p k = q a) → J.countP p = l.countP q
  | [], [], _, _ => rfl
  | [], b :: l, h, _ => by simp at h
  | k :: J, [], h, _ => by simp at h
  | k :: J, a :: l, h, hp => by
    rw [List.map_cons, List.map_cons, List.cons.injEq] at h
    rw [List.countP_cons, List.countP_cons, hp k a (List.mem_cons_self ..) (List.mem_cons_self ..) h.1, al_count h.2 (fun k' a' hk ha => hp k' a' (List.mem_cons_of_mem _ hk) (List.mem_cons_of_mem _ ha))]
theorem al_foldl {α β γ δ : Type} {f : α → γ} {g : β → γ} {p : δ → α → δ} {q : δ → β → δ} : ∀ {J : List α} {l : List β} (o : δ), J.map f = l.map g → (∀ k a o, k ∈ J → a ∈ l → f k = g a → p o k = q o a) → J.foldl p o = l.foldl q o
  | [], [], _, _, _ => rfl
  | [], b :: l, _, h, _ => by simp at h
  | k :: J, [], _, h, _ => by simp at h
  | k :: J, a :: l, o, h, hp => by
    rw [List.map_cons, List.map_cons, List.cons.injEq] at h
    rw [List.foldl_cons, List.foldl_cons, hp k a o (List.mem_cons_self ..) (List.mem_cons_self ..) h.1, al_foldl _ h.2 (fun k' a' o hk ha => hp k' a' o (List.mem_cons_of_mem _ hk) (List.mem_cons_of_mem _ ha))]
theorem fnd_none {p : Nat → Bool} : ∀ {n k : Nat}, fnd p k n = none → ∀ j, k ≤ j → j < k + n → p j = false
  | 0, k, _, j, h1, h2 => by omega
  | n + 1, k, h, j, h1, h2 => by
    unfold fnd at h
    split at h
    · cases h
    · rename_i hp
      by_cases e : j = k
      · rw [e]; simpa using hp
      · exact fnd_none h j (by omega) (by omega)
theorem fnd_first {p : Nat → Bool} : ∀ {n k i : Nat}, fnd p k n = some i → ∀ j, k ≤ j → j < i → p j = false
  | 0, k, i, h, _, _, _ => by cases h
  | n + 1, k, i, h, j, h1, h2 => by
    unfold fnd at h
    split at h
    · cases h; omega
    · rename_i hp
      by_cases e : j = k
      · rw [e]; simpa using hp
      · exact fnd_first h j (by omega) h2
/-! one trace, told by both -/
/-- the reference's places of a trace's spans, in the order of the class's row -/
def Al (σ : Sto) (S t : Nat) (l J : List Nat) : Prop := J.Nodup ∧ (∀ k, k ∈ J ↔ k < S ∧ rT (rwM σ k) = nI t) ∧ J.map (rwM σ) = l.map (rwX σ (nI t))
def TC (σ : Sto) (S t : Nat) (l J : List Nat) : Prop := Al σ S t l J ∧ (∀ a b, a ∈ l → b ∈ l → gi σ a 0 = gi σ b 0 → a = b) ∧ (∀ a, a ∈ l → okR (rwX σ (nI t) a)) ∧ (∀ a, a ∈ l → 103 ≤ a)
def rl (σ : Sto) (t : Nat) (l J : List Nat) (k a : Nat) : Prop := k ∈ J ∧ a ∈ l ∧ rwM σ k = rwX σ (nI t) a
section
variable {σ : Sto} {S t : Nat} {l J : List Nat}
theorem TC.ofX (h : TC σ S t l J) {a : Nat} (ha : a ∈ l) : ∃ k, rl σ t l J k a := by
  have : rwX σ (nI t) a ∈ J.map (rwM σ) := by rw [h.1.2.2]; exact List.mem_map_of_mem ha
  obtain ⟨k, hk, e⟩ := List.mem_map.mp this
  exact ⟨k, hk, ha, e⟩
theorem TC.ofM (h : TC σ S t l J) {k : Nat} (hk : k ∈ J) : ∃ a, rl σ t l J k a := by
  have : rwM σ k ∈ l.map (rwX σ (nI t)) := by rw [← h.1.2.2]; exact List.mem_map_of_mem hk
  obtain ⟨a, ha, e⟩ := List.mem_map.mp this
  exact ⟨a, hk, ha, e.symm⟩
theorem TC.uX' (h : TC σ S t l J) {k a b : Nat} (h1 : rl σ t l J k a) (h2 : rl σ t l J k b) : a = b :=
  h.2.1 a b h1.2.1 h2.2.1 (by
    have e : rwX σ (nI t) a = rwX σ (nI t) b := h1.2.2.symm.trans h2.2.2
    exact congrArg rN e)
theorem TC.lt (h : TC σ S t l J) {k a : Nat} (h1 : rl σ t l J k a) : k < S := ((h.1.2.1 k).mp h1.1).1
theorem TC.tr (h : TC σ S t l J) {k a : Nat} (h1 : rl σ t l J k a) : rT (rwM σ k) = nI t := ((h.1.2.1 k).mp h1.1).2
/-- looked for by number -/
theorem TC.f (h : TC σ S t l J) (x : Int32) : (fIx (key (nI t) x) 0 (rws σ 0 S) = none ∧ l.find? (nuX σ x) = none) ∨ (∃ k a, fIx (key (nI t) x) 0 (rws σ 0 S) = some k ∧ l.find? (nuX σ x) = some a ∧ rl σ t l J k a) := by
  cases hf : fIx (key (nI t) x) 0 (rws σ 0 S) with
  | none =>
    refine Or.inl ⟨rfl, ?_⟩
    rw [List.find?_eq_none]
    intro a ha hx
    obtain ⟨k, hk⟩ := h.ofX ha
    have := fIx_none hf _ (rws_mem.mpr ⟨k, h.lt hk, rfl⟩)
    unfold key at this
    have e1 : rN (rwM σ k) = x := by
      rw [hk.2.2]
      have hx' : gi σ a 0 = x := by simpa [nuX] using hx
      exact hx'
    rw [h.tr hk, e1] at this
    simp at this
  | some k =>
    obtain ⟨hk1, hk2⟩ := fIx_rws hf
    simp only [key, decide_eq_true_eq] at hk2
    obtain ⟨a, ha⟩ := h.ofM ((h.1.2.1 k).mpr ⟨hk1, hk2.1⟩)
    have ea : gi σ a 0 = x := by
      have := hk2.2
      rw [ha.2.2] at this
      exact this
    refine Or.inr ⟨k, a, rfl, ?_, ha⟩
    cases hx : l.find? (nuX σ x) with
    | none =>
      rw [List.find?_eq_none] at hx
      exact absurd (by simpa [nuX] using ea) (hx a ha.2.1)
    | some b =>
      have hb := List.mem_of_find?_eq_some hx
      have eb := List.find?_some hx
      simp only [nuX, decide_eq_true_eq] at eb
      rw [h.2.1 a b ha.2.1 hb (by rw [ea, eb])]
theorem TC.n0 (h : TC σ S t l J) {a : Nat} (ha : a ∈ l) : ¬ gi σ a 0 = 0 := by
  obtain ⟨n, h1, h2, h3⟩ := (h.2.2.1 a ha).2.1
  have e : gi σ a 0 = nI n := h3
  rw [e]
  exact nI_ne0 (by omega) (by omega)
theorem TC.u (h : TC σ S t l J) {k a : Nat} (hr : rl σ t l J k a) : (uM σ S k = none ∧ uX σ l a = none) ∨ (∃ k' a', uM σ S k = some k' ∧ uX σ l a = some a' ∧ rl σ t l J k' a') := by
  have e1 : rP (rwM σ k) = gi σ a 1 := by rw [hr.2.2]; rfl
  rw [uX_eq (h.2.2.2 a hr.2.1)]
  unfold uM upI
  rw [h.tr hr, e1]
  by_cases h0 : gi σ a 1 = 0
  · rw [if_pos h0]
    refine Or.inl ⟨rfl, ?_⟩
    rw [List.find?_eq_none]
    intro b hb hx
    simp only [nuX, decide_eq_true_eq, h0] at hx
    exact h.n0 hb hx
  · rw [if_neg h0]
    exact h.f _
theorem TC.un (h : TC σ S t l J) {k a : Nat} (hr : rl σ t l J k a) : uM σ S k = none ↔ uX σ l a = none := by
  rcases h.u hr with ⟨h1, h2⟩ | ⟨k', a', h1, h2, -⟩
  · simp [h1, h2]
  · simp [h1, h2]
theorem TC.c (h : TC σ S t l J) : ∀ (f : Nat) {k a : Nat} (d : Nat), rl σ t l J k a → (clI (uM σ S) f k d).2 = (clI (uX σ l) f a d).2 ∧ rl σ t l J (clI (uM σ S) f k d).1 (clI (uX σ l) f a d).1
  | 0, k, a, d, hr => ⟨rfl, hr⟩
  | f + 1, k, a, d, hr => by
    unfold clI
    rcases h.u hr with ⟨h1, h2⟩ | ⟨k', a', h1, h2, h3⟩
    · rw [h1, h2]; exact ⟨rfl, hr⟩
    · rw [h1, h2]; exact TC.c h f (d + 1) h3
theorem TC.de (h : TC σ S t l J) {k a : Nat} (hr : rl σ t l J k a) : deI (uM σ S) k = deI (uX σ l) a := (h.c 31 0 hr).1
theorem TC.ro (h : TC σ S t l J) {k a : Nat} (hr : rl σ t l J k a) : (roI (uM σ S) k = none ∧ roI (uX σ l) a = none) ∨ (∃ k' a', roI (uM σ S) k = some k' ∧ roI (uX σ l) a = some a' ∧ rl σ t l J k' a') := by
  unfold roI
  rw [h.de hr]
  by_cases hd : 30 < deI (uX σ l) a
  · rw [if_pos hd, if_pos hd]; exact Or.inl ⟨rfl, rfl⟩
  · rw [if_neg hd, if_neg hd]; exact Or.inr ⟨_, _, rfl, rfl, (h.c 31 0 hr).2⟩
theorem TC.ron (h : TC σ S t l J) {k a : Nat} (hr : rl σ t l J k a) : roI (uM σ S) k = none ↔ roI (uX σ l) a = none := by
  rcases h.ro hr with ⟨h1, h2⟩ | ⟨k', a', h1, h2, -⟩
  · simp [h1, h2]
  · simp [h1, h2]
end
theorem roI_end {u : Nat → Option Nat} {a r : Nat} (h : roI u a = some r) : u r = none := by
  unfold roI at h
  split at h
  · cases h
  · rename_i hd
    cases h
    have := (clI_le u 31 a 0).2
    unfold deI at hd
    exact this (by omega)
theorem roI_self {u : Nat → Option Nat} {a : Nat} : roI u a = some a ↔ u a = none := by
  refine ⟨roI_end, fun h => ?_⟩
  have e : clI u 31 a 0 = (a, 0) := by unfold clI; rw [h]
  unfold roI deI
  rw [e]
  rfl
section
variable {σ : Sto} {S t : Nat} {l J : List Nat}
theorem TC.ki (h : TC σ S t l J) {k a o b : Nat} (hr : rl σ t l J k a) (hb : rl σ t l J o b) : kiB σ S o k = kiX σ l (gi σ b 0) a := by
  unfold kiB kiX
  rw [h.tr hr, h.tr hb, hr.2.2, hb.2.2]
  have e1 : rP (rwX σ (nI t) a) = gi σ a 1 := rfl
  have e2 : rN (rwX σ (nI t) b) = gi σ b 0 := rfl
  rw [e1, e2, decide_eq_decide]
  rw [h.ron hr]
  refine ⟨fun q => ⟨q.2.2, fun hu => ?_, q.2.1⟩, fun q => ⟨rfl, q.2.2, q.1⟩⟩
  rw [uX_eq (h.2.2.2 a hr.2.1), List.find?_eq_none] at hu
  exact hu b hb.2.1 (by simp [nuX, q.2.1])
theorem TC.ah (h : TC σ S t l J) {k a o b : Nat} (hr : rl σ t l J k a) (hb : rl σ t l J o b) : ahB (rwM σ k) (rwM σ o) = ahX σ a b := by
  rw [hr.2.2, hb.2.2]; rfl
theorem TC.cn (h : TC σ S t l J) {p q : Nat → Bool} (h1 : ∀ k a, rl σ t l J k a → p k = q a) (h2 : ∀ k, k < S → ¬ rT (rwM σ k) = nI t → p k = false) : cnt p 0 S = l.countP q := by
  rw [cnt_range, ← List.range_eq_range']
  rw [List.countP_eq_length_filter]
  have e : (List.range S).filter p = ((List.range S).filter (fun k => decide (rT (rwM σ k) = nI t))).filter p := by
    rw [List.filter_filter]
    refine List.filter_congr (fun k hk => ?_)
    by_cases hp : rT (rwM σ k) = nI t
    · simp [hp]
    · simp [h2 k (List.mem_range.mp hk) hp]
  rw [e, ← List.countP_eq_length_filter]
  have hperm : ((List.range S).filter (fun k => decide (rT (rwM σ k) = nI t))).Perm J := by
    rw [List.perm_ext_iff_of_nodup (List.nodup_range.sublist List.filter_sublist) h.1.1]
    intro k
    rw [List.mem_filter, h.1.2.1 k, List.mem_range, decide_eq_true_eq]
  rw [hperm.countP_eq]
  exact al_count h.1.2.2 (fun k a hk ha e => h1 k a ⟨hk, ha, e⟩)
/-- the i-th in the class's row, and the one with i ahead of it -/
theorem atL_spec {q : Nat → Bool} {A : Nat → Nat → Bool} : ∀ {l : List Nat} {i : Int32}, l.length < 2 ^ 31 → l.Pairwise (fun a b => A a b = true ∧ A b a = false) → (∀ a, a ∈ l → A a a = false) → (∀ a, atL q i l = some a → a ∈ l ∧ q a = true ∧ nI (l.countP (fun b => q b && A b a)) = i) ∧ (atL q i l = none → ∀ a, a ∈ l → q a = true → ¬ nI (l.countP (fun b => q b && A b a)) = i)
  | [], i, _, _, _ => ⟨fun a h => (by cases h), fun _ a h => (by cases h)⟩
  | c :: l, i, hl, hp, hi => by
    rw [List.pairwise_cons] at hp
    rw [List.length_cons] at hl
    obtain ⟨hp1, hp2⟩ := hp
    have hi2 : ∀ a, a ∈ l → A a a = false := fun a ha => hi a (List.mem_cons_of_mem _ ha)
    have cc : (c :: l).countP (fun b => q b && A b c) = 0 := by
      rw [List.countP_eq_zero]
      intro b hb
      rcases List.mem_cons.mp hb with e | e
      · subst e; simp [hi b (List.mem_cons_self ..)]
      · simp [(hp1 b e).2]
    have ca : ∀ a, a ∈ l → (c :: l).countP (fun b => q b && A b a) = (if q c then 1 else 0) + l.countP (fun b => q b && A b a) := fun a ha => by
      rw [List.countP_cons, (hp1 a ha).1, Bool.and_true, Nat.add_comm]
    cases hq : q c with
    | false =>
      obtain ⟨g1, g2⟩ := atL_spec (q := q) (A := A) (l := l) (i := i) (by omega) hp2 hi2
      have e : atL q i (c :: l) = atL q i l := by rw [atL, hq]; rfl
      rw [e]
      refine ⟨fun a h => ?_, fun h a ha hqa => ?_⟩
      · obtain ⟨k1, k2, k3⟩ := g1 a h
        refine ⟨List.mem_cons_of_mem _ k1, k2, ?_⟩
        rw [ca a k1, hq]; simpa using k3
      · rcases List.mem_cons.mp ha with ea | ea
        · subst ea; rw [hq] at hqa; cases hqa
        · rw [ca a ea, hq]; simpa using g2 h a ea hqa
    | true =>
      by_cases h0 : i = 0
      · have e : atL q i (c :: l) = some c := by rw [atL, hq, h0]; rfl
        rw [e]
        refine ⟨fun a h => ?_, fun h => by cases h⟩
        cases h
        exact ⟨List.mem_cons_self .., hq, by rw [cc, h0]; rfl⟩
      · obtain ⟨g1, g2⟩ := atL_spec (q := q) (A := A) (l := l) (i := i + (-1)) (by omega) hp2 hi2
        have e : atL q i (c :: l) = atL q (i + (-1)) l := by rw [atL, hq, if_pos rfl, if_neg h0]
        rw [e]
        have sh : ∀ m : Nat, nI (1 + m) = i ↔ nI m = i + (-1) := fun m => by
          rw [Nat.add_comm, ← pk_m1 m]
          exact ⟨fun q => by rw [q], fun q => by
            have := congrArg (· + (1 : Int32)) q
            simpa [Int32.add_assoc] using this⟩
        refine ⟨fun a h => ?_, fun h a ha hqa => ?_⟩
        · obtain ⟨k1, k2, k3⟩ := g1 a h
          refine ⟨List.mem_cons_of_mem _ k1, k2, ?_⟩
          rw [ca a k1, hq, if_pos rfl, sh]; exact k3
        · rcases List.mem_cons.mp ha with ea | ea
          · subst ea; rw [cc, nI_0]; exact fun q => h0 q.symm
          · rw [ca a ea, hq, if_pos rfl, sh]; exact g2 h a ea hqa
end
