/-! the rows of both -/
def kyR (r : Rw) : Int32 × Int32 := (rT r, rN r)
def RO (σ : Sto) (L : Nat → List Nat) (S : Nat) : Prop := (∀ k, k < S → okR (rwM σ k)) ∧ ((rws σ 0 S).map kyR).Nodup ∧ (∀ t, t < 20 → ((rws σ 0 S).filter (isT (nI t))).Perm ((L t).map (rwX σ (nI t)))) ∧ (∀ t, t < 20 → SO σ (L t) ∧ (L t).length ≤ 30)
theorem RO.tc {σ : Sto} {L : Nat → List Nat} {S t : Nat} (h : RO σ L S) (hI : XI σ L) (ht : t < 20) : ∃ J, TC σ S t (L t) J := by
  obtain ⟨h1, h2, h3, h4⟩ := h
  have hp := h3 t ht
  have hn : (((L t).map (rwX σ (nI t))).map kyR).Nodup := by
    refine (hp.map kyR).nodup ?_
    exact h2.sublist (List.filter_sublist.map kyR)
  rw [List.map_map] at hn
  rw [rws_range, List.filter_map] at hp
  obtain ⟨J, hJ1, hJ2⟩ := perm_map_inv hp
  refine ⟨J, ⟨?_, fun k => ?_, hJ2⟩, fun a b ha hb e => ?_, hI.r ht, hI.g ht⟩
  · exact hJ1.symm.nodup ((List.nodup_range' (s := 0) (n := S)).sublist List.filter_sublist)
  · rw [hJ1.mem_iff, List.mem_filter, List.mem_range'_1]
    simp only [Function.comp, isT, decide_eq_true_eq]
    exact ⟨fun q => ⟨by omega, q.2⟩, fun q => ⟨by omega, q.2⟩⟩
  · refine inj_nodup hn a b ha hb ?_
    show (nI t, gi σ a 0) = (nI t, gi σ b 0)
    rw [e]
theorem TC.uM' {σ : Sto} {S t : Nat} {l J : List Nat} (h : TC σ S t l J) (hn : l.Nodup) {k k' a : Nat} (h1 : rl σ t l J k a) (h2 : rl σ t l J k' a) : k = k' := by
  have e : (l.map (rwX σ (nI t))).Nodup := nodup_inj hn (fun a b ha hb q => h.2.1 a b ha hb (congrArg rN q))
  rw [← h.1.2.2] at e
  exact inj_nodup e k k' h1.1 h2.1 (h1.2.2.trans h2.2.2.symm)
/-! sums over all traces -/
theorem sm_snoc (f : Nat → Nat) (m : Nat) : sm f 0 (m + 1) = sm f 0 m + f m := by
  rw [sm_split]
  simp [sm]
theorem sm_congr {f g : Nat → Nat} : ∀ (n k : Nat), (∀ j, k ≤ j → j < k + n → f j = g j) → sm f k n = sm g k n
  | 0, _, _ => rfl
  | n + 1, k, h => by rw [sm, sm, h k (by omega) (by omega), sm_congr n (k + 1) (fun j h1 h2 => h j (by omega) (by omega))]
theorem cnt_congr {p q : Nat → Bool} : ∀ (n k : Nat), (∀ j, k ≤ j → j < k + n → p j = q j) → cnt p k n = cnt q k n
  | 0, _, _ => rfl
  | n + 1, k, h => by rw [cnt, cnt, h k (by omega) (by omega), cnt_congr n (k + 1) (fun j h1 h2 => h j (by omega) (by omega))]
theorem cnt_sum {a b c : Nat → Bool} : ∀ (n k : Nat), (∀ j, k ≤ j → j < k + n → (if c j then 1 else 0) = (if a j then 1 else 0) + (if b j then 1 else 0)) → cnt c k n = cnt a k n + cnt b k n
  | 0, _, _ => rfl
  | n + 1, k, h => by
    have e := h k (by omega) (by omega)
    have i := cnt_sum n (k + 1) (fun j h1 h2 => h j (by omega) (by omega))
    rw [cnt, cnt, cnt]
    omega
theorem cnt_zero : ∀ (n k : Nat), cnt (fun _ => false) k n = 0
  | 0, _ => rfl
  | n + 1, k => by rw [cnt, cnt_zero n (k + 1)]; rfl
section
variable {σ : Sto} {L : Nat → List Nat} {S : Nat}
theorem cnt_tr (hR : ∀ k, k < S → okR (rwM σ k)) (p : Nat → Bool) : cnt p 0 S = sm (fun t => cnt (fun k => decide (rT (rwM σ k) = nI t) && p k) 0 S) 0 20 := by
  have st : ∀ m, m ≤ 20 → sm (fun t => cnt (fun k => decide (rT (rwM σ k) = nI t) && p k) 0 S) 0 m = cnt (fun k => decide ((rT (rwM σ k)).toNatClampNeg < m) && p k) 0 S := by
    intro m
    induction m with
    | zero =>
      intro _
      rw [sm]
      refine Eq.symm ((cnt_congr S 0 (fun j _ _ => ?_)).trans (cnt_zero S 0))
      rw [decide_eq_false (Nat.not_lt_zero _), Bool.false_and]
    | succ m ih =>
      intro hm
      rw [sm_snoc, ih (by omega)]
      refine (cnt_sum S 0 (fun j _ hj => ?_)).symm
      obtain ⟨u, hu, eu⟩ := (hR j (by omega)).1
      rw [eu, nI_clamp (show u < 2 ^ 31 by omega)]
      have e : decide (nI u = nI m) = decide (u = m) := decide_eq_decide.mpr (nI_eq (by omega) (by omega))
      rw [e]
      cases p j
      · simp
      · simp only [Bool.and_true, decide_eq_true_eq]
        by_cases h1 : u < m
        · rw [if_pos h1, if_neg (show ¬ u = m by omega), if_pos (show u < m + 1 by omega)]
        · rw [if_neg h1]
          by_cases h2 : u = m
          · rw [if_pos h2, if_pos (show u < m + 1 by omega)]
          · rw [if_neg h2, if_neg (show ¬ u < m + 1 by omega)]
  rw [st 20 (by omega)]
  refine cnt_congr S 0 (fun j _ hj => ?_)
  obtain ⟨u, hu, eu⟩ := (hR j (by omega)).1
  rw [eu, nI_clamp (show u < 2 ^ 31 by omega)]
  simp [hu]
theorem an_pairs (h : RO σ L S) (hI : XI σ L) : cnt (paB σ S) 0 S = sm (fun t => (L t).countP (prX σ (L t))) 0 20 := by
  rw [cnt_tr h.1]
  refine sm_congr 20 0 (fun t _ ht => ?_)
  obtain ⟨J, hJ⟩ := h.tc hI (show t < 20 by omega)
  exact hJ.cn (fun k a hr => by rw [hJ.tr hr, decide_eq_true rfl, Bool.true_and, hJ.pa hr]) (fun k _ e => by simp [e])
theorem anB_any {t : Nat} {l J : List Nat} (h : TC σ S t l J) {p q : Nat → Bool} (h1 : ∀ k a, rl σ t l J k a → p k = q a) (h2 : ∀ k, k < S → ¬ rT (rwM σ k) = nI t → p k = false) : anB p 0 S = l.any q := by
  have ex : ∀ n k, anB p k n = true ↔ ∃ j, k ≤ j ∧ j < k + n ∧ p j = true := by
    intro n
    induction n with
    | zero => intro k; simp only [anB]; exact ⟨fun q => (by cases q), fun ⟨j, q⟩ => (by omega)⟩
    | succ n ih =>
      intro k
      rw [anB, Bool.or_eq_true, ih (k + 1)]
      constructor
      · rintro (q | ⟨j, q1, q2, q3⟩)
        · exact ⟨k, by omega, by omega, q⟩
        · exact ⟨j, by omega, by omega, q3⟩
      · rintro ⟨j, q1, q2, q3⟩
        by_cases e : j = k
        · subst e; exact Or.inl q3
        · exact Or.inr ⟨j, by omega, by omega, q3⟩
  rw [Bool.eq_iff_iff, ex, List.any_eq_true]
  constructor
  · rintro ⟨k, -, hk, hp⟩
    have hT : rT (rwM σ k) = nI t := by
      refine Classical.byContradiction (fun e => ?_)
      rw [h2 k (by omega) e] at hp
      cases hp
    obtain ⟨a, hr⟩ := h.ofM ((h.1.2.1 k).mpr ⟨by omega, hT⟩)
    exact ⟨a, hr.2.1, by rw [← h1 k a hr]; exact hp⟩
  · rintro ⟨a, ha, hq⟩
    obtain ⟨k, hr⟩ := h.ofX ha
    exact ⟨k, by omega, by have := h.lt hr; omega, by rw [h1 k a hr]; exact hq⟩
theorem TC.par {t : Nat} {l J : List Nat} (h : TC σ S t l J) (hn : l.Nodup) {k a o b : Nat} (hr : rl σ t l J k a) (ho : rl σ t l J o b) : uM σ S o = some k ↔ gi σ b 1 = gi σ a 0 := by
  have fa : ∀ c, c ∈ l → gi σ b 1 = gi σ c 0 → uX σ l b = some c := fun c hc e => by
    rw [uX_eq (h.2.2.2 b ho.2.1)]
    cases hf : l.find? (nuX σ (gi σ b 1)) with
    | none =>
      rw [List.find?_eq_none] at hf
      exact absurd (by simp [nuX, e]) (hf c hc)
    | some d =>
      rw [h.2.1 d c (List.mem_of_find?_eq_some hf) hc ((h.fn hf).trans e)]
  constructor
  · intro e
    rcases h.u ho with ⟨g1, g2⟩ | ⟨k', a', g1, g2, g3⟩
    · rw [g1] at e; cases e
    · rw [g1] at e
      cases e
      rw [h.uX' hr g3]
      rw [uX_eq (h.2.2.2 b ho.2.1)] at g2
      exact (h.fn g2).symm
  · intro e
    have g := fa a hr.2.1 e
    rcases h.u ho with ⟨g1, g2⟩ | ⟨k', a', g1, g2, g3⟩
    · rw [g] at g2; cases g2
    · rw [g] at g2
      cases g2
      rw [g1, h.uM' hn hr g3]
theorem uM_tr {k o : Nat} (h : uM σ S o = some k) : rT (rwM σ k) = rT (rwM σ o) := by
  unfold uM upI at h
  split at h
  · cases h
  · have := (fIx_rws h).2
    simp only [key, decide_eq_true_eq] at this
    exact this.1
theorem an_flow (h : RO σ L S) (hI : XI σ L) {x y w : Int32} (hw : w = 0 ∨ w = 1 ∨ w = 2) : cnt (flB σ S x y w) 0 S = sm (fun t => (L t).countP (asB σ (L t) x y w)) 0 20 := by
  rw [cnt_tr h.1]
  refine sm_congr 20 0 (fun t _ ht => ?_)
  obtain ⟨J, hJ⟩ := h.tc hI (show t < 20 by omega)
  have hn := (hI.t (show t < 20 by omega)).2.2.2.2.1
  refine hJ.cn (fun k a hr => ?_) (fun k _ e => by simp [e])
  rw [hJ.tr hr, decide_eq_true rfl, Bool.true_and]
  have hB : ∀ o b, rl σ t (L t) J o b → svB σ S k o = seB σ a b := fun o b ho => by
    unfold svB seB
    rw [decide_eq_decide, hJ.par hn hr ho, ho.2.2]
    exact Iff.rfl
  have off : ∀ o, o < S → ¬ rT (rwM σ o) = nI t → svB σ S k o = false := fun o _ e => by
    unfold svB
    rw [decide_eq_false_iff_not]
    exact fun q => e ((uM_tr q.2).symm.trans (hJ.tr hr))
  have hY : ∀ o b, rl σ t (L t) J o b → svY σ S y k o = seY σ y a b := fun o b ho => by
    unfold svY seY
    rw [hB o b ho, ho.2.2]
    rfl
  have hF : ∀ o b, rl σ t (L t) J o b → svF σ S y k o = seF σ y a b := fun o b ho => by
    unfold svF seF
    rw [hY o b ho, ho.2.2]
    rfl
  have offY : ∀ o, o < S → ¬ rT (rwM σ o) = nI t → svY σ S y k o = false := fun o ho e => by unfold svY; rw [off o ho e, Bool.false_and]
  have offF : ∀ o, o < S → ¬ rT (rwM σ o) = nI t → svF σ S y k o = false := fun o ho e => by unfold svF; rw [offY o ho e, Bool.false_and]
  unfold flB asB ctX
  rw [anB_any hJ hB off, anB_any hJ hY offY, anB_any hJ hF offF, hr.2.2]
  have e1 : rK (rwX σ (nI t) a) = gi σ a 4 := rfl
  have e2 : rV (rwX σ (nI t) a) = gi σ a 2 := rfl
  have e3 : rF (rwX σ (nI t) a) = gi σ a 5 := rfl
  rw [e1, e2, e3]
  rcases hw with rfl | rfl | rfl
  · simp
  · simp
  · simp
/-! what all pairs tell -/
theorem tpL_fold (l : List Nat) : ∀ (m : List Nat) (o : Nat → Option Int64), tpL σ l m o = m.foldl (fun o a => tpS σ l a o) o
  | [], _ => rfl
  | a :: m, o => by rw [tpL, List.foldl_cons, tpL_fold l m]
def uTl (i : Nat) (v : Int64) (o : Nat → Option Int64) : Nat → Option Int64 := up1 o i (lowO (o i) v)
theorem lowO_comm (x : Option Int64) (v w : Int64) : lowO (lowO x v) w = lowO (lowO x w) v := by
  have mn : ∀ a b : Int64, (if a < b then a else b) = if b < a then b else a := fun a b => by
    rcases Int64.lt_or_le a b with h | h
    · rw [if_pos h, if_neg (Int64.not_lt.mpr (Int64.le_of_lt h))]
    · rw [if_neg (Int64.not_lt.mpr h)]
      rcases Int64.lt_or_eq_of_le h with g | g
      · rw [if_pos g]
      · rw [if_neg (by rw [g]; exact Int64.lt_irrefl), g]
  cases x with
  | none => simp only [lowO]; rw [mn]
  | some u =>
    simp only [lowO]
    congr 1
    rcases Int64.lt_or_le v u with h1 | h1 <;> rcases Int64.lt_or_le w u with h2 | h2
    · rw [if_pos h1, if_pos h2, mn]
    · rw [if_pos h1, if_neg (Int64.not_lt.mpr h2), if_neg (Int64.not_lt.mpr (Int64.le_trans (Int64.le_of_lt h1) h2)), if_pos h1]
    · rw [if_neg (Int64.not_lt.mpr h1), if_pos h2, if_neg (Int64.not_lt.mpr (Int64.le_trans (Int64.le_of_lt h2) h1))]
    · rw [if_neg (Int64.not_lt.mpr h1), if_neg (Int64.not_lt.mpr h2), if_neg (Int64.not_lt.mpr h1)]
theorem uTl_comm (i j : Nat) (v w : Int64) (o : Nat → Option Int64) : uTl i v (uTl j w o) = uTl j w (uTl i v o) := by
  funext k
  unfold uTl up1
  by_cases e : i = j
  · subst e
    by_cases hk : k = i
    · simp only [hk, if_true]; exact lowO_comm _ _ _
    · simp [hk]
  · have e' : ¬ j = i := fun q => e q.symm
    by_cases hk : k = i
    · subst hk
      simp only [e, e', if_true, if_false]
    · by_cases hj : k = j
      · subst hj
        simp only [e, e', if_true, if_false]
      · simp only [hk, hj, if_false]
theorem lnR_u (p k : Rw) (o : Nat → Option Int64) : lnR p k o = if rK k = 2 then uTl (6 * (rV k).toNatClampNeg + (rV p).toNatClampNeg) (rE p - rE k) (uTl (6 * (rV p).toNatClampNeg + (rV k).toNatClampNeg) (rB k - rB p) o) else uTl (6 * (rV p).toNatClampNeg + (rV k).toNatClampNeg) (rB k - rE p) o := rfl
theorem lnR_comm (p k p' k' : Rw) (o : Nat → Option Int64) : lnR p k (lnR p' k' o) = lnR p' k' (lnR p k o) := by
  simp only [lnR_u]
  split <;> split
  · rw [uTl_comm (6 * (rV p).toNatClampNeg + (rV k).toNatClampNeg), uTl_comm (6 * (rV p).toNatClampNeg + (rV k).toNatClampNeg) (6 * (rV p').toNatClampNeg + (rV k').toNatClampNeg), uTl_comm (6 * (rV k).toNatClampNeg + (rV p).toNatClampNeg), uTl_comm (6 * (rV k).toNatClampNeg + (rV p).toNatClampNeg) (6 * (rV p').toNatClampNeg + (rV k').toNatClampNeg)]
  · rw [uTl_comm (6 * (rV p).toNatClampNeg + (rV k).toNatClampNeg), uTl_comm (6 * (rV k).toNatClampNeg + (rV p).toNatClampNeg)]
  · rw [uTl_comm (6 * (rV p).toNatClampNeg + (rV k).toNatClampNeg), uTl_comm (6 * (rV p).toNatClampNeg + (rV k).toNatClampNeg) (6 * (rV p').toNatClampNeg + (rV k').toNatClampNeg)]
  · rw [uTl_comm (6 * (rV p).toNatClampNeg + (rV k).toNatClampNeg)]
theorem bdS_ln (k : Nat) (o : Nat → Option Int64) : bdS σ S k o = match uM σ S k with
    | none => o
    | some p => if prB (rwM σ p) (rwM σ k) then lnR (rwM σ p) (rwM σ k) o else o := by
  unfold bdS
  cases uM σ S k with
  | none => rfl
  | some p => rfl
theorem bdS_comm (k j : Nat) (o : Nat → Option Int64) : bdS σ S k (bdS σ S j o) = bdS σ S j (bdS σ S k o) := by
  simp only [bdS_ln]
  cases uM σ S k with
  | none => rfl
  | some p =>
    cases uM σ S j with
    | none => rfl
    | some q =>
      simp only
      split <;> split
      · exact lnR_comm _ _ _ _ _
      · rfl
      · rfl
      · rfl
theorem an_bounds (h : RO σ L S) (hI : XI σ L) : bdA σ S = bdX σ L := by
  have st : ∀ m, m ≤ 20 → itr (fun t o => tpL σ (L t) (L t) o) 0 m (fun _ => none) = ((List.range S).filter (fun k => decide ((rT (rwM σ k)).toNatClampNeg < m))).foldl (fun o k => bdS σ S k o) (fun _ => none) := by
    intro m
    induction m with
    | zero =>
      intro _
      have : (List.range S).filter (fun k => decide ((rT (rwM σ k)).toNatClampNeg < 0)) = [] := by
        rw [List.filter_eq_nil_iff]; intro a _; simp
      rw [this]; rfl
    | succ m ih =>
      intro hm
      obtain ⟨J, hJ⟩ := h.tc hI (show m < 20 by omega)
      rw [itr_snoc, ih (by omega), Nat.zero_add, tpL_fold]
      rw [← al_foldl (p := fun o k => bdS σ S k o) (f := rwM σ) (g := rwX σ (nI m)) (J := J) _ hJ.1.2.2 (fun k a o hk ha e => ?_)]
      · rw [← List.foldl_append]
        refine List.Perm.foldl_eq' ?_ (fun x _ y _ z => bdS_comm _ _ _) _
        have cl : ∀ k, k < S → ∃ u, u < 20 ∧ rT (rwM σ k) = nI u ∧ (rT (rwM σ k)).toNatClampNeg = u := fun k hk => by
          obtain ⟨u, hu, eu⟩ := (h.1 k hk).1
          exact ⟨u, hu, eu, by rw [eu, nI_clamp (show u < 2 ^ 31 by omega)]⟩
        refine (List.perm_ext_iff_of_nodup ?_ (List.nodup_range.sublist List.filter_sublist)).mpr (fun k => ?_)
        · rw [List.nodup_append]
          refine ⟨List.nodup_range.sublist List.filter_sublist, hJ.1.1, fun a ha b hb e => ?_⟩
          subst e
          rw [List.mem_filter, List.mem_range, decide_eq_true_eq] at ha
          obtain ⟨u, hu, e1, e2⟩ := cl a ha.1
          have e3 := ((hJ.1.2.1 a).mp hb).2
          rw [e1, nI_eq (by omega) (by omega)] at e3
          omega
        · rw [List.mem_append, List.mem_filter, List.mem_filter, hJ.1.2.1, List.mem_range, decide_eq_true_eq, decide_eq_true_eq]
          constructor
          · rintro (q | q)
            · exact ⟨q.1, by omega⟩
            · refine ⟨q.1, ?_⟩
              rw [q.2, nI_clamp (by omega)]
              omega
          · rintro ⟨q1, q2⟩
            obtain ⟨u, hu, e1, e2⟩ := cl k q1
            by_cases e : u = m
            · exact Or.inr ⟨q1, by rw [e1, e]⟩
            · exact Or.inl ⟨q1, by omega⟩
      · have hr : rl σ m (L m) J k a := ⟨hk, ha, e⟩
        show bdS σ S k o = tpS σ (L m) a o
        rw [bdS_ln]
        unfold tpS
        rcases hJ.u hr with ⟨g1, g2⟩ | ⟨k', a', g1, g2, g3⟩
        · rw [g1, g2]
        · rw [g1, g2]
          simp only
          rw [hr.2.2, g3.2.2]
          rfl
  unfold bdA bdX
  rw [st 20 (by omega), itr_range, ← List.range_eq_range']
  congr 1
  symm
  rw [List.filter_eq_self]
  intro k hk
  obtain ⟨u, hu, eu⟩ := (h.1 k (List.mem_range.mp hk)).1
  rw [eu, nI_clamp (by omega)]
  simpa using hu
end
