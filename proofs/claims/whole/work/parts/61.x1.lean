/-! the class: chains of spans -/
theorem kdS (a : Nat) (h : 103 ≤ a) : kd a = (1, 12) := by
  unfold kd
  rw [List.getD_eq_getElem?_getD, List.getElem?_eq_none (Nat.le_trans (by decide) h)]
  rfl
theorem okS_of {σ : Sto} {a : Nat} (h1 : 103 ≤ a) (h2 : a < sn σ) : okO σ a 1 := ⟨h2, by rw [kdS a h1]⟩
def rwX (σ : Sto) (t : Int32) (a : Nat) : Rw := (t, gi σ a 0, gi σ a 1, gi σ a 2, gi σ a 3, gi σ a 4, gi σ a 5, gl σ a 6, gl σ a 7)
def ahX (σ : Sto) (a b : Nat) : Bool := ahB (rwX σ 0 a) (rwX σ 0 b)
/-- linked spans, the last of which has h behind it -/
def lkt (σ : Sto) : List Nat → Option Nat → Prop
  | [], _ => True
  | a :: l, h => 103 ≤ a ∧ a < sn σ ∧ gr σ a 8 = l.head?.or h ∧ lkt σ l h
theorem lkt_append {σ : Sto} {h : Option Nat} : ∀ (l m : List Nat), lkt σ (l ++ m) h ↔ lkt σ l (m.head?.or h) ∧ lkt σ m h
  | [], m => by simp [lkt]
  | a :: l, m => by
    rw [List.cons_append, lkt, lkt, lkt_append l m]
    have e : (l ++ m).head?.or h = l.head?.or (m.head?.or h) := by cases l <;> simp
    rw [e]
    constructor
    · rintro ⟨h1, h2, h3, h4, h5⟩; exact ⟨⟨h1, h2, h3, h4⟩, h5⟩
    · rintro ⟨⟨h1, h2, h3, h4⟩, h5⟩; exact ⟨h1, h2, h3, h4, h5⟩
theorem lkt_mem {σ : Sto} {h : Option Nat} : ∀ {l : List Nat}, lkt σ l h → ∀ a, a ∈ l → 103 ≤ a ∧ a < sn σ
  | [], _, a, ha => by cases ha
  | b :: l, hl, a, ha => by
    rcases List.mem_cons.mp ha with e | e
    · rw [e]; exact ⟨hl.1, hl.2.1⟩
    · exact lkt_mem hl.2.2.2 a e
theorem lkt_of {σ σ' : Sto} {h : Option Nat} (hs : sn σ ≤ sn σ') : ∀ {l : List Nat}, (∀ a, a ∈ l → gr σ' a 8 = gr σ a 8) → lkt σ l h → lkt σ' l h
  | [], _, _ => trivial
  | a :: l, he, hl => ⟨hl.1, Nat.lt_of_lt_of_le hl.2.1 hs, by rw [he a (List.mem_cons_self ..)]; exact hl.2.2.1, lkt_of hs (fun b hb => he b (List.mem_cons_of_mem _ hb)) hl.2.2.2⟩
theorem lkt_si {σ : Sto} {a k : Nat} {v : Int32} {l : List Nat} {r : Option Nat} (h : lkt σ l r) : lkt (si σ a k v) l r := lkt_of (σ := σ) (by exact Nat.le_refl _) (fun _ _ => rfl) h
def nuX (σ : Sto) (x : Int32) (a : Nat) : Bool := decide (gi σ a 0 = x)
theorem X_find_loop {b : B3} {σ : Sto} {K : Option Nat → Sto → Prop} {T : Nat} {x : Int32} : ∀ (l : List Nat), lkt σ l none → K (l.find? (nuX σ x)) σ → Ev b 29 5 [aR (some T), aI x, aR l.head?] [] σ (eR K) := by
  intro l
  induction l with
  | nil =>
    intro hl h
    rw [v_29_5]
    simp only [List.head?_nil, z10, z00, not_true_eq_false, not_false_eq_true, false_implies, true_implies, implies_true, nI_1, Int32.add_zero, true_or, or_true, true_and, and_true, eI_eq, eL_eq, eR_eq, eV_eq, lg_cmp_ge, lg_cmp_le, lg_cmp_gt, lg_cmp_lt, lg_cmp_eq, v_29_6, v_29_9, v_29_10, v_29_13, v_29_14, v_29_17, v_29_18, v_29_19, v_29_20, v_29_23, v_29_24, v_29_27, v_29_28]
    exact h
  | cons a l ih =>
    intro hl h
    obtain ⟨h1, h2, h3, h4⟩ := hl
    rw [Option.or_none] at h3
    rw [v_29_5]
    simp only [List.head?_cons, reduceCtorEq, z10, z00, not_true_eq_false, not_false_eq_true, false_implies, true_implies, implies_true, nI_1, Int32.add_zero, true_or, or_true, true_and, and_true, eI_eq, eL_eq, eR_eq, eV_eq, lg_cmp_ge, lg_cmp_le, lg_cmp_gt, lg_cmp_lt, lg_cmp_eq, v_29_6, v_29_9, v_29_10, v_29_13, v_29_14, v_29_17, v_29_18, v_29_19, v_29_20, v_29_23, v_29_24, v_29_27, v_29_28, okS_of h1 h2, h3]
    rw [List.find?_cons] at h
    refine ⟨fun g => ih h4 (by simpa [nuX, g] using h), fun g => by simpa [nuX, g] using h⟩
theorem X_find {d : Nat} {σ : Sto} {K : Option Nat → Sto → Prop} {T : Nat} {x : Int32} {l : List Nat} (hT : okO σ T 3) (hf : gr σ T 0 = l.head?) (hl : lkt σ l none) (h : K (l.find? (nuX σ x)) σ) : CR d 29 [aR (some T), aI x] σ K := by
  refine CR_of ?_
  show Ev (d, 0, 0) 29 0 [aR (some T), aI x, aU] [] σ _
  simp only [z10, z00, not_true_eq_false, not_false_eq_true, false_implies, true_implies, implies_true, nI_1, Int32.add_zero, true_or, or_true, true_and, and_true, eI_eq, eL_eq, eR_eq, eV_eq, lg_cmp_ge, lg_cmp_le, lg_cmp_gt, lg_cmp_lt, lg_cmp_eq, v_29_0, v_29_1, v_29_4, hT, hf]
  exact X_find_loop l hl h
theorem X_comesAhead {d : Nat} {σ : Sto} {K : Int32 → Sto → Prop} {a b : Nat} (ha : okO σ a 1) (hb : okO σ b 1) (h : K (bI (ahX σ a b)) σ) : CI d 17 [aR (some a), aR (some b)] σ K := by
  refine CI_of ?_
  show Ev (d, 0, 0) 17 0 [aR (some a), aR (some b)] [] σ _
  simp only [z10, z00, not_true_eq_false, not_false_eq_true, false_implies, true_implies, implies_true, nI_1, Int32.add_zero, true_or, or_true, true_and, and_true, eI_eq, eL_eq, eR_eq, eV_eq, lg_cmp_ge, lg_cmp_le, lg_cmp_gt, lg_cmp_lt, lg_cmp_eq, v_17_0, v_17_1, v_17_4, v_17_5, v_17_8, v_17_9, v_17_12, v_17_13, v_17_16, v_17_17, v_17_20, v_17_21, v_17_24, v_17_25, v_17_28, v_17_29, v_17_32, v_17_33, v_17_36, v_17_37, v_17_40, v_17_43, v_17_44, v_17_47, v_17_48, ha, hb]
  have e : ahX σ a b = decide (gl σ a 6 < gl σ b 6 ∨ (gl σ a 6 = gl σ b 6 ∧ gi σ a 0 < gi σ b 0)) := rfl
  rw [e] at h
  refine ⟨fun g => ⟨fun g2 => ?_, fun g2 => ?_⟩, fun g => ⟨fun g2 => ?_, fun g2 => ?_⟩⟩
  · have e2 : decide (gl σ a 6 < gl σ b 6 ∨ (gl σ a 6 = gl σ b 6 ∧ gi σ a 0 < gi σ b 0)) = false := decide_eq_false (fun q => q.elim (fun q => by rw [g] at q; exact Int64.lt_irrefl q) (fun q => Int32.not_lt.mpr g2 q.2))
    rw [e2] at h
    exact h
  · rw [decide_eq_true (Or.inr ⟨g, Int32.not_le.mp g2⟩)] at h
    exact h
  · have e2 : decide (gl σ a 6 < gl σ b 6 ∨ (gl σ a 6 = gl σ b 6 ∧ gi σ a 0 < gi σ b 0)) = false := decide_eq_false (fun q => q.elim (Int64.not_lt.mpr g2) (fun q => g q.1))
    rw [e2] at h
    exact h
  · rw [decide_eq_true (Or.inl (Int64.not_le.mp g2))] at h
    exact h
theorem X_linkBehind {d : Nat} {σ : Sto} {K : Sto → Prop} {T : Nat} {r s : Option Nat} (hT : okO σ T 3) (hr : ∀ a, r = some a → okO σ a 1) (h0 : r = none → K (sr σ T 0 s)) (h1 : ∀ a, r = some a → K (sr σ a 8 s)) : CV d 32 [aR (some T), aR r, aR s] σ K := by
  refine CV_of ?_
  show Ev (d, 0, 0) 32 0 [aR (some T), aR r, aR s] [] σ _
  cases r with
  | none =>
    simp only [z10, z00, not_true_eq_false, not_false_eq_true, false_implies, true_implies, implies_true, nI_1, Int32.add_zero, true_or, or_true, true_and, and_true, eI_eq, eL_eq, eR_eq, eV_eq, lg_cmp_ge, lg_cmp_le, lg_cmp_gt, lg_cmp_lt, lg_cmp_eq, v_32_0, v_32_1, v_32_4, v_32_5, v_32_6, v_32_9, v_32_12, v_32_13, v_32_14, v_32_17, hT]
    exact h0 rfl
  | some a =>
    simp only [z10, z00, not_true_eq_false, not_false_eq_true, false_implies, true_implies, implies_true, nI_1, Int32.add_zero, true_or, or_true, true_and, and_true, eI_eq, eL_eq, eR_eq, eV_eq, lg_cmp_ge, lg_cmp_le, lg_cmp_gt, lg_cmp_lt, lg_cmp_eq, v_32_0, v_32_1, v_32_4, v_32_5, v_32_6, v_32_9, v_32_12, v_32_13, v_32_14, v_32_17, reduceCtorEq, hr a rfl]
    exact h1 a rfl
def insL (σ : Sto) (n : Nat) : List Nat → List Nat
  | [] => [n]
  | a :: l => if ahX σ a n then a :: insL σ n l else n :: a :: l
/-- links of spans, and what is first, are written -/
def scI (T : Nat) (l : List Nat) (σ σ' : Sto) : Prop := sn σ' = sn σ ∧ gl σ' = gl σ ∧ (∀ a k, ¬ (a = T ∧ (k = 1 ∨ k = 2)) → gi σ' a k = gi σ a k) ∧ (∀ a k, ¬ (a = T ∧ k = 0) → ¬ (a ∈ l ∧ k = 8) → gr σ' a k = gr σ a k)
theorem gr_sr_k (σ : Sto) (a k : Nat) (v : Option Nat) (b j : Nat) : gr (sr σ a k v) b j = if b = a ∧ j = k then v else gr σ b j := by
  rw [gr_sr_r]
  by_cases h : b = a
  · subst h
    rw [if_pos rfl, up1]
    by_cases hj : j = k
    · rw [if_pos hj, if_pos ⟨rfl, hj⟩]
    · rw [if_neg hj, if_neg (fun q => hj q.2)]
  · rw [if_neg h, if_neg (fun q => h q.1)]
theorem gi_si_k (σ : Sto) (a k : Nat) (v : Int32) (b j : Nat) : gi (si σ a k v) b j = if b = a ∧ j = k then v else gi σ b j := by
  rw [gi_si_r]
  by_cases h : b = a
  · subst h
    rw [if_pos rfl, up1]
    by_cases hj : j = k
    · rw [if_pos hj, if_pos ⟨rfl, hj⟩]
    · rw [if_neg hj, if_neg (fun q => hj q.2)]
  · rw [if_neg h, if_neg (fun q => h q.1)]
theorem gl_sl_k (σ : Sto) (a k : Nat) (v : Int64) (b j : Nat) : gl (sl σ a k v) b j = if b = a ∧ j = k then v else gl σ b j := by
  rw [gl_sl_r]
  by_cases h : b = a
  · subst h
    rw [if_pos rfl, up1]
    by_cases hj : j = k
    · rw [if_pos hj, if_pos ⟨rfl, hj⟩]
    · rw [if_neg hj, if_neg (fun q => hj q.2)]
  · rw [if_neg h, if_neg (fun q => h q.1)]
/-- m is put behind pre: the new links -/
theorem link_in {σ : Sto} {T : Nat} {pre rest : List Nat} {m : List Nat} {τ : Sto} (hT : T < 103) (hsn : sn τ = sn σ) (hτ : ∀ a k, ¬ (a ∈ m ∧ k = 8) → gr τ a k = gr σ a k) (hm : lkt τ m none) (hmp : ∀ a, a ∈ m → a ∉ pre) (hnd : (pre ++ rest).Nodup) (hl : lkt σ (pre ++ rest) none) (hf : gr σ T 0 = (pre ++ rest).head?) : (pre = [] → gr (sr τ T 0 m.head?) T 0 = (pre ++ m).head? ∧ lkt (sr τ T 0 m.head?) (pre ++ m) none) ∧ (∀ z, pre.getLast? = some z → gr (sr τ z 8 m.head?) T 0 = (pre ++ m).head? ∧ lkt (sr τ z 8 m.head?) (pre ++ m) none) := by
  refine ⟨fun e => ?_, fun z hz => ?_⟩
  · subst e
    refine ⟨by rw [gr_sr_k, if_pos ⟨rfl, rfl⟩]; rfl, ?_⟩
    exact lkt_of (σ := τ) (by exact Nat.le_refl _) (fun a ha => by rw [gr_sr_k, if_neg (fun q : a = T ∧ 8 = 0 => by have := (lkt_mem hm a ha).1; omega)]) hm
  · obtain ⟨p, hp⟩ : ∃ p, pre = p ++ [z] := by
      refine ⟨pre.dropLast, ?_⟩
      have hne : pre ≠ [] := by intro e; rw [e] at hz; cases hz
      rw [List.getLast?_eq_some_getLast hne] at hz
      cases hz
      exact (List.dropLast_concat_getLast hne).symm
    subst hp
    have hzm : z ∉ m := fun q => hmp z q (by simp)
    have hpm : ∀ a, a ∈ p → a ∉ m := fun a ha q => hmp a q (by simp [ha])
    rw [lkt_append] at hl
    obtain ⟨hl1, hl2⟩ := hl
    rw [lkt_append] at hl1
    obtain ⟨hl1, hl3⟩ := hl1
    have hz103 := hl3.1
    have hzp : z ∉ p := by
      rw [List.append_assoc, List.nodup_append] at hnd
      exact fun q => hnd.2.2 z q z (by simp) rfl
    refine ⟨?_, ?_⟩
    · rw [gr_sr_k, if_neg (fun q => by omega), hτ T 0 (fun q => by omega), hf]
      cases p <;> simp
    · rw [lkt_append, lkt_append]
      refine ⟨⟨?_, ?_⟩, ?_⟩
      · refine lkt_of (σ := σ) (by show sn σ ≤ sn τ; omega) (fun a ha => ?_) hl1
        rw [gr_sr_k, if_neg (fun q : a = z ∧ 8 = 8 => hzp (q.1 ▸ ha)), hτ a 8 (fun q => hpm a ha q.1)]
      · refine ⟨hz103, by show z < sn τ; rw [hsn]; exact hl3.2.1, ?_, trivial⟩
        rw [gr_sr_k, if_pos ⟨rfl, rfl⟩]
        simp
      · refine lkt_of (σ := τ) (by exact Nat.le_refl _) (fun a ha => ?_) hm
        rw [gr_sr_k, if_neg (fun q : a = z ∧ 8 = 8 => hzm (q.1 ▸ ha))]
theorem gL_okS {σ : Sto} {pre rest : List Nat} {h : Option Nat} (hl : lkt σ (pre ++ rest) h) : ∀ z, pre.getLast? = some z → okO σ z 1 := fun z hz => by
  have hm : z ∈ pre ++ rest := List.mem_append_left _ (List.mem_of_getLast? hz)
  have := lkt_mem hl z hm
  exact okS_of this.1 this.2
theorem X_insert_loop {d : Nat} {σ : Sto} {K : Sto → Prop} {T n : Nat} {l : List Nat} (hTO : okO σ T 3) (hT : T < 103) (hn1 : 103 ≤ n) (hn2 : n < sn σ) (hnl : n ∉ l) (hnd : l.Nodup) (hl : lkt σ l none) (hf : gr σ T 0 = l.head?) (h : ∀ σ', scI T (n :: l) σ σ' → gr σ' T 0 = (insL σ n l).head? → lkt σ' (insL σ n l) none → gi σ' T 1 = gi σ T 1 + 1 → gi σ' T 2 = 0 → K σ') : ∀ (rest pre : List Nat), l = pre ++ rest → insL σ n l = pre ++ insL σ n rest → Ev (d + 1, 0, 0) 30 7 [aR (some T), aR (some n), aR pre.getLast?, aR rest.head?] [] σ (eV K) := by
  have fin : ∀ (rest pre : List Nat), l = pre ++ rest → insL σ n l = pre ++ n :: rest → Ev (d + 1, 0, 0) 30 29 [aR (some T), aR (some n), aR pre.getLast?, aR rest.head?] [] σ (eV K) := by
    intro rest pre e1 e2
    subst e1
    have hτ : ∀ a k, ¬ (a ∈ n :: rest ∧ k = 8) → gr (sr σ n 8 rest.head?) a k = gr σ a k := fun a k q => by
      rw [gr_sr_k, if_neg (fun z => q ⟨by rw [z.1]; exact List.mem_cons_self .., z.2⟩)]
    have hl2 := hl
    rw [lkt_append] at hl2
    have hnr : n ∉ rest := fun q => hnl (List.mem_append_right _ q)
    have hm : lkt (sr σ n 8 rest.head?) (n :: rest) none := ⟨hn1, hn2, by rw [gr_sr_k, if_pos ⟨rfl, rfl⟩, Option.or_none], lkt_of (σ := σ) (by exact Nat.le_refl _) (fun a ha => by rw [gr_sr_k, if_neg (fun q : a = n ∧ 8 = 8 => hnr (q.1 ▸ ha))]) hl2.2⟩
    have hmp : ∀ a, a ∈ n :: rest → a ∉ pre := fun a ha q => by
      rcases List.mem_cons.mp ha with e | e
      · exact hnl (by rw [← e]; exact List.mem_append_left _ q)
      · rw [List.nodup_append] at hnd
        exact hnd.2.2 a q a e rfl
    obtain ⟨k1, k2⟩ := link_in (σ := σ) hT (by rfl) hτ hm hmp hnd hl hf
    have hTO1 : okO (sr σ n 8 rest.head?) T 3 := hTO
    simp only [z10, z00, not_true_eq_false, not_false_eq_true, false_implies, true_implies, implies_true, nI_1, Int32.add_zero, true_or, or_true, true_and, and_true, eI_eq, eL_eq, eR_eq, eV_eq, lg_cmp_ge, lg_cmp_le, lg_cmp_gt, lg_cmp_lt, lg_cmp_eq, v_30_29, v_30_30, v_30_31, v_30_34, v_30_35, v_30_36, v_30_37, okS_of hn1 hn2, hTO, okO_sr]
    refine X_linkBehind hTO1 (gL_okS (σ := σ) hl) (fun e => ?_) (fun z e => ?_)
    · have e0 : pre = [] := by cases pre with
        | nil => rfl
        | cons a p => rw [List.getLast?_eq_some_getLast (by simp)] at e; cases e
      obtain ⟨m1, m2⟩ := k1 e0
      simp only [z10, z00, not_true_eq_false, not_false_eq_true, false_implies, true_implies, implies_true, nI_1, Int32.add_zero, true_or, or_true, true_and, and_true, eI_eq, eL_eq, eR_eq, eV_eq, lg_cmp_ge, lg_cmp_le, lg_cmp_gt, lg_cmp_lt, lg_cmp_eq, v_30_40, v_30_41, v_30_42, v_30_45, v_30_46, v_30_47, v_30_50, v_30_51, v_30_52, v_30_55, hTO, okO_sr, okO_si]
      refine h _ ⟨rfl, rfl, fun a k q => ?_, fun a k q1 q2 => ?_⟩ ?_ ?_ ?_ ?_
      · rw [gi_si_k, if_neg (fun z => q ⟨z.1, Or.inr z.2⟩), gi_si_k, if_neg (fun z => q ⟨z.1, Or.inl z.2⟩)]; rfl
      · rw [gr_si_r, gr_si_r]
        show gr (sr (sr σ n 8 rest.head?) T 0 (some n)) a k = _
        rw [gr_sr_k, if_neg q1, gr_sr_k, if_neg (fun z => q2 ⟨by rw [z.1]; exact List.mem_cons_self .., z.2⟩)]
      · rw [e2]; exact m1
      · rw [e2]; exact lkt_si (lkt_si m2)
      · rw [gi_si_k, if_neg (by omega), gi_si_k, if_pos ⟨rfl, rfl⟩]; rfl
      · rw [gi_si_k, if_pos ⟨rfl, rfl⟩]
    · obtain ⟨m1, m2⟩ := k2 z e
      simp only [z10, z00, not_true_eq_false, not_false_eq_true, false_implies, true_implies, implies_true, nI_1, Int32.add_zero, true_or, or_true, true_and, and_true, eI_eq, eL_eq, eR_eq, eV_eq, lg_cmp_ge, lg_cmp_le, lg_cmp_gt, lg_cmp_lt, lg_cmp_eq, v_30_40, v_30_41, v_30_42, v_30_45, v_30_46, v_30_47, v_30_50, v_30_51, v_30_52, v_30_55, hTO, okO_sr, okO_si]
      refine h _ ⟨rfl, rfl, fun a k q => ?_, fun a k q1 q2 => ?_⟩ ?_ ?_ ?_ ?_
      · rw [gi_si_k, if_neg (fun z => q ⟨z.1, Or.inr z.2⟩), gi_si_k, if_neg (fun z => q ⟨z.1, Or.inl z.2⟩)]; rfl
      · rw [gr_si_r, gr_si_r]
        show gr (sr (sr σ n 8 rest.head?) z 8 (some n)) a k = _
        have hz : z ∈ pre := List.mem_of_getLast? e
        rw [gr_sr_k, if_neg (fun y => q2 ⟨by rw [y.1]; exact List.mem_cons_of_mem _ (List.mem_append_left _ hz), y.2⟩), gr_sr_k, if_neg (fun z => q2 ⟨by rw [z.1]; exact List.mem_cons_self .., z.2⟩)]
      · rw [e2]; exact m1
      · rw [e2]; exact lkt_si (lkt_si m2)
      · rw [gi_si_k, if_neg (by omega), gi_si_k, if_pos ⟨rfl, rfl⟩]; rfl
      · rw [gi_si_k, if_pos ⟨rfl, rfl⟩]
  intro rest
  induction rest with
  | nil =>
    intro pre e1 e2
    rw [v_30_7]
    simp only [List.head?_nil, v_30_8, z10, z00, not_true_eq_false, not_false_eq_true, false_implies, true_implies, implies_true, true_and, and_true, true_or, or_true, false_and, and_false, false_or, or_false]
    exact fin [] pre e1 e2
  | cons a rest ih =>
    intro pre e1 e2
    have hlr := hl
    rw [e1, lkt_append] at hlr
    obtain ⟨h1, h2, h3, h4⟩ := hlr.2
    rw [Option.or_none] at h3
    rw [v_30_7]
    simp only [List.head?_cons, reduceCtorEq, z10, z00, not_true_eq_false, not_false_eq_true, false_implies, true_implies, implies_true, nI_1, Int32.add_zero, true_or, or_true, true_and, and_true, eI_eq, eL_eq, eR_eq, eV_eq, lg_cmp_ge, lg_cmp_le, lg_cmp_gt, lg_cmp_lt, lg_cmp_eq, v_30_8, v_30_11, v_30_12, v_30_13]
    refine ⟨okS_of h1 h2, X_comesAhead (okS_of h1 h2) (okS_of hn1 hn2) ?_⟩
    cases hah : ahX σ a n with
    | false =>
      simp only [bI, Bool.false_eq_true, if_false, v_30_16, z10, z00, not_true_eq_false, not_false_eq_true, false_implies, true_implies, implies_true, true_and, and_true, true_or, or_true, false_and, and_false, false_or, or_false]
      exact fin (a :: rest) pre e1 (by rw [e2, insL, hah]; rfl)
    | true =>
      simp only [bI, if_true, z10, z00, not_true_eq_false, not_false_eq_true, false_implies, true_implies, implies_true, nI_1, Int32.add_zero, true_or, or_true, true_and, and_true, eI_eq, eL_eq, eR_eq, eV_eq, lg_cmp_ge, lg_cmp_le, lg_cmp_gt, lg_cmp_lt, lg_cmp_eq, v_30_16, v_30_19, v_30_20, v_30_21, v_30_22, v_30_25, v_30_26, okS_of h1 h2, h3, z10, z00, not_true_eq_false, not_false_eq_true, false_implies, true_implies, implies_true, true_and, and_true, true_or, or_true, false_and, and_false, false_or, or_false]
      have := ih (pre ++ [a]) (by rw [e1, List.append_assoc]; rfl) (by rw [e2, insL, hah, List.append_assoc]; rfl)
      rw [List.getLast?_append] at this
      exact this
theorem X_insert {d : Nat} {σ : Sto} {K : Sto → Prop} {T n : Nat} {l : List Nat} (hTO : okO σ T 3) (hT : T < 103) (hn1 : 103 ≤ n) (hn2 : n < sn σ) (hnl : n ∉ l) (hnd : l.Nodup) (hl : lkt σ l none) (hf : gr σ T 0 = l.head?) (h : ∀ σ', scI T (n :: l) σ σ' → gr σ' T 0 = (insL σ n l).head? → lkt σ' (insL σ n l) none → gi σ' T 1 = gi σ T 1 + 1 → gi σ' T 2 = 0 → K σ') : CV (d + 1) 30 [aR (some T), aR (some n)] σ K := by
  refine CV_of ?_
  show Ev (d + 1, 0, 0) 30 0 [aR (some T), aR (some n), aU, aU] [] σ _
  simp only [z10, z00, not_true_eq_false, not_false_eq_true, false_implies, true_implies, implies_true, nI_1, Int32.add_zero, true_or, or_true, true_and, and_true, eI_eq, eL_eq, eR_eq, eV_eq, lg_cmp_ge, lg_cmp_le, lg_cmp_gt, lg_cmp_lt, lg_cmp_eq, v_30_0, v_30_1, v_30_2, v_30_3, v_30_6, hTO, hf]
  exact X_insert_loop hTO hT hn1 hn2 hnl hnd hl hf h l [] rfl rfl
theorem X_remove_loop {d : Nat} {σ : Sto} {K : Sto → Prop} {T n : Nat} {l : List Nat} (hTO : okO σ T 3) (hT : T < 103) (hnd : l.Nodup) (hl : lkt σ l none) (hf : gr σ T 0 = l.head?) (hnl : n ∈ l) (h : ∀ σ', scI T l σ σ' → gr σ' T 0 = (l.erase n).head? → lkt σ' (l.erase n) none → gi σ' T 1 = gi σ T 1 - 1 → gi σ' T 2 = 0 → K σ') : ∀ (rest pre : List Nat), l = pre ++ rest → n ∉ pre → Ev (d + 1, 0, 0) 31 7 [aR (some T), aR (some n), aR pre.getLast?, aR rest.head?] [] σ (eV K) := by
  intro rest
  induction rest with
  | nil =>
    intro pre e1 e2
    rw [List.append_nil] at e1
    exact absurd (e1 ▸ hnl) e2
  | cons a rest ih =>
    intro pre e1 e2
    have hlr := hl
    rw [e1, lkt_append] at hlr
    obtain ⟨h1, h2, h3, h4⟩ := hlr.2
    rw [Option.or_none] at h3
    rw [v_31_7]
    simp only [List.head?_cons, reduceCtorEq, z10, z00, not_true_eq_false, not_false_eq_true, false_implies, true_implies, implies_true, nI_1, Int32.add_zero, true_or, or_true, true_and, and_true, eI_eq, eL_eq, eR_eq, eV_eq, lg_cmp_ge, lg_cmp_le, lg_cmp_gt, lg_cmp_lt, lg_cmp_eq, v_31_8, v_31_11, v_31_12, v_31_13, Option.some.injEq]
    refine ⟨fun g => ?_, fun g => ?_⟩
    · simp only [z10, z00, not_true_eq_false, not_false_eq_true, false_implies, true_implies, implies_true, nI_1, Int32.add_zero, true_or, or_true, true_and, and_true, eI_eq, eL_eq, eR_eq, eV_eq, lg_cmp_ge, lg_cmp_le, lg_cmp_gt, lg_cmp_lt, lg_cmp_eq, v_31_41, v_31_42, v_31_43, v_31_44, v_31_47, v_31_48, okS_of h1 h2, h3]
      have := ih (pre ++ [a]) (by rw [e1, List.append_assoc]; rfl) (by
        rw [List.mem_append]
        rintro (q | q)
        · exact e2 q
        · exact g (List.mem_singleton.mp q).symm)
      rw [List.getLast?_append] at this
      exact this
    · subst g
      have eE : l.erase a = pre ++ rest := by
        rw [e1, List.erase_append_right _ e2, List.erase_cons_head]
      rw [eE] at h
      have hnd2 := hnd
      rw [e1] at hnd2
      have hm : lkt σ rest none := h4
      have hmp : ∀ b, b ∈ rest → b ∉ pre := fun b hb q => by
        rw [List.nodup_append] at hnd2
        exact hnd2.2.2 b q b (List.mem_cons_of_mem _ hb) rfl
      obtain ⟨k1, k2⟩ := link_in (σ := σ) (τ := σ) hT (by rfl) (fun a k _ => rfl) hm hmp hnd2 (by rw [← e1]; exact hl) (by rw [← e1]; exact hf)
      simp only [z10, z00, not_true_eq_false, not_false_eq_true, false_implies, true_implies, implies_true, nI_1, Int32.add_zero, true_or, or_true, true_and, and_true, eI_eq, eL_eq, eR_eq, eV_eq, lg_cmp_ge, lg_cmp_le, lg_cmp_gt, lg_cmp_lt, lg_cmp_eq, v_31_16, v_31_17, v_31_18, v_31_19, v_31_22, okS_of h1 h2, hTO, h3]
      refine X_linkBehind hTO (gL_okS (σ := σ) (rest := a :: rest) (by rw [← e1]; exact hl)) (fun e => ?_) (fun z e => ?_)
      · have e0 : pre = [] := by cases pre with
          | nil => rfl
          | cons a p => rw [List.getLast?_eq_some_getLast (by simp)] at e; cases e
        obtain ⟨m1, m2⟩ := k1 e0
        simp only [z10, z00, not_true_eq_false, not_false_eq_true, false_implies, true_implies, implies_true, nI_1, Int32.add_zero, true_or, or_true, true_and, and_true, eI_eq, eL_eq, eR_eq, eV_eq, lg_cmp_ge, lg_cmp_le, lg_cmp_gt, lg_cmp_lt, lg_cmp_eq, v_31_25, v_31_26, v_31_27, v_31_30, v_31_31, v_31_32, v_31_35, v_31_36, v_31_37, v_31_40, hTO, okO_sr, okO_si]
        refine h _ ⟨rfl, rfl, fun a k q => ?_, fun a k q1 q2 => ?_⟩ m1 (lkt_si (lkt_si m2)) ?_ ?_
        · rw [gi_si_k, if_neg (fun z => q ⟨z.1, Or.inr z.2⟩), gi_si_k, if_neg (fun z => q ⟨z.1, Or.inl z.2⟩)]; rfl
        · rw [gr_si_r, gr_si_r, gr_sr_k, if_neg q1]
        · rw [gi_si_k, if_neg (by omega), gi_si_k, if_pos ⟨rfl, rfl⟩]; rfl
        · rw [gi_si_k, if_pos ⟨rfl, rfl⟩]
      · obtain ⟨m1, m2⟩ := k2 z e
        simp only [z10, z00, not_true_eq_false, not_false_eq_true, false_implies, true_implies, implies_true, nI_1, Int32.add_zero, true_or, or_true, true_and, and_true, eI_eq, eL_eq, eR_eq, eV_eq, lg_cmp_ge, lg_cmp_le, lg_cmp_gt, lg_cmp_lt, lg_cmp_eq, v_31_25, v_31_26, v_31_27, v_31_30, v_31_31, v_31_32, v_31_35, v_31_36, v_31_37, v_31_40, hTO, okO_sr, okO_si]
        have hz : z ∈ pre := List.mem_of_getLast? e
        refine h _ ⟨rfl, rfl, fun a k q => ?_, fun b k q1 q2 => ?_⟩ m1 (lkt_si (lkt_si m2)) ?_ ?_
        · rw [gi_si_k, if_neg (fun z => q ⟨z.1, Or.inr z.2⟩), gi_si_k, if_neg (fun z => q ⟨z.1, Or.inl z.2⟩)]; rfl
        · rw [gr_si_r, gr_si_r, gr_sr_k, if_neg (fun y => q2 ⟨by rw [y.1, e1]; exact List.mem_append_left _ hz, y.2⟩)]
        · rw [gi_si_k, if_neg (by omega), gi_si_k, if_pos ⟨rfl, rfl⟩]; rfl
        · rw [gi_si_k, if_pos ⟨rfl, rfl⟩]
theorem X_remove {d : Nat} {σ : Sto} {K : Sto → Prop} {T n : Nat} {l : List Nat} (hTO : okO σ T 3) (hT : T < 103) (hnd : l.Nodup) (hl : lkt σ l none) (hf : gr σ T 0 = l.head?) (hnl : n ∈ l) (h : ∀ σ', scI T l σ σ' → gr σ' T 0 = (l.erase n).head? → lkt σ' (l.erase n) none → gi σ' T 1 = gi σ T 1 - 1 → gi σ' T 2 = 0 → K σ') : CV (d + 1) 31 [aR (some T), aR (some n)] σ K := by
  refine CV_of ?_
  show Ev (d + 1, 0, 0) 31 0 [aR (some T), aR (some n), aU, aU] [] σ _
  simp only [z10, z00, not_true_eq_false, not_false_eq_true, false_implies, true_implies, implies_true, nI_1, Int32.add_zero, true_or, or_true, true_and, and_true, eI_eq, eL_eq, eR_eq, eV_eq, lg_cmp_ge, lg_cmp_le, lg_cmp_gt, lg_cmp_lt, lg_cmp_eq, v_31_0, v_31_1, v_31_2, v_31_3, v_31_6, hTO, hf]
  exact X_remove_loop hTO hT hnd hl hf hnl h l [] rfl (by simp)
theorem X_removeAll {d : Nat} {σ : Sto} {K : Sto → Prop} {T : Nat} (hTO : okO σ T 3) (h : K (si (si (sr σ T 0 none) T 1 0) T 2 1)) : CV d 33 [aR (some T)] σ K := by
  refine CV_of ?_
  show Ev (d, 0, 0) 33 0 [aR (some T)] [] σ _
  simp only [z10, z00, not_true_eq_false, not_false_eq_true, false_implies, true_implies, implies_true, nI_1, Int32.add_zero, true_or, or_true, true_and, and_true, eI_eq, eL_eq, eR_eq, eV_eq, lg_cmp_ge, lg_cmp_le, lg_cmp_gt, lg_cmp_lt, lg_cmp_eq, v_33_0, v_33_1, v_33_2, v_33_5, v_33_6, v_33_7, v_33_10, v_33_11, v_33_12, v_33_15, hTO, okO_sr, okO_si]
  exact h
/-! the class: trees -/
def uX (σ : Sto) (l : List Nat) (a : Nat) : Option Nat := if a < 103 then none else l.find? (nuX σ (gi σ a 1))
/-- up, top and depth, and that they are settled, are written -/
def scS (l : List Nat) (T : Nat) (σ σ' : Sto) : Prop := sn σ' = sn σ ∧ gl σ' = gl σ ∧ (∀ a k, ¬ (a ∈ l ∧ k = 11) → ¬ (a = T ∧ k = 2) → gi σ' a k = gi σ a k) ∧ (∀ a k, ¬ (a ∈ l ∧ (k = 9 ∨ k = 10)) → gr σ' a k = gr σ a k)
theorem scS.rfl (l : List Nat) (T : Nat) (σ : Sto) : scS l T σ σ := ⟨Eq.refl _, Eq.refl _, fun _ _ _ _ => Eq.refl _, fun _ _ _ => Eq.refl _⟩
theorem scS.trans {l : List Nat} {T : Nat} {σ σ' σ'' : Sto} (h1 : scS l T σ σ') (h2 : scS l T σ' σ'') : scS l T σ σ'' := ⟨h2.1.trans h1.1, h2.2.1.trans h1.2.1, fun a k e1 e2 => (h2.2.2.1 a k e1 e2).trans (h1.2.2.1 a k e1 e2), fun a k e1 => (h2.2.2.2 a k e1).trans (h1.2.2.2 a k e1)⟩
theorem scS.lk {l m : List Nat} {T : Nat} {σ σ' : Sto} {r : Option Nat} (h : scS l T σ σ') (hl : lkt σ m r) : lkt σ' m r := lkt_of (Nat.le_of_eq h.1.symm) (fun a _ => h.2.2.2 a 8 (by omega)) hl
theorem scS.rw {l : List Nat} {T : Nat} {σ σ' : Sto} (h : scS l T σ σ') (hT : T < 103) {t : Int32} {a : Nat} (ha : 103 ≤ a) : rwX σ' t a = rwX σ t a := by
  unfold rwX
  rw [h.2.1, h.2.2.1 a 0 (by omega) (by omega), h.2.2.1 a 1 (by omega) (by omega), h.2.2.1 a 2 (by omega) (by omega), h.2.2.1 a 3 (by omega) (by omega), h.2.2.1 a 4 (by omega) (by omega), h.2.2.1 a 5 (by omega) (by omega)]
theorem find_congr {p q : Nat → Bool} : ∀ {l : List Nat}, (∀ a, a ∈ l → p a = q a) → l.find? p = l.find? q
  | [], _ => rfl
  | a :: l, h => by
    rw [List.find?_cons, List.find?_cons, h a (List.mem_cons_self ..), find_congr (fun b hb => h b (List.mem_cons_of_mem _ hb))]
theorem uX_of {σ σ' : Sto} {l : List Nat} (h : ∀ a, 103 ≤ a → gi σ' a 0 = gi σ a 0 ∧ gi σ' a 1 = gi σ a 1) (hl : ∀ a, a ∈ l → 103 ≤ a) : uX σ' l = uX σ l := by
  funext a
  unfold uX
  by_cases ha : a < 103
  · rw [if_pos ha, if_pos ha]
  · rw [if_neg ha, if_neg ha, (h a (by omega)).2]
    exact find_congr (fun b hb => by unfold nuX; rw [(h b (hl b hb)).1])
theorem scS.u {l m : List Nat} {T : Nat} {σ σ' : Sto} (h : scS l T σ σ') (hT : T < 103) (hm : ∀ a, a ∈ m → 103 ≤ a) : uX σ' m = uX σ m := uX_of (fun b hb => ⟨h.2.2.1 b 0 (by omega) (by omega), h.2.2.1 b 1 (by omega) (by omega)⟩) hm
theorem uX_eq {σ : Sto} {l : List Nat} {a : Nat} (ha : 103 ≤ a) : uX σ l a = l.find? (nuX σ (gi σ a 1)) := by
  unfold uX
  rw [if_neg (by omega)]
theorem uX_mem {σ : Sto} {l : List Nat} {a c : Nat} (h : uX σ l a = some c) : c ∈ l := by
  unfold uX at h
  split at h
  · cases h
  · exact List.mem_of_find?_eq_some h
theorem X_climb_loop {b : B3} {σ : Sto} {Q : Po} {s : Nat} {u : Nat → Option Nat} {l : List Nat} (hu : ∀ a, a ∈ l → gr σ a 9 = u a ∧ okO σ a 1) (hul : ∀ a c, u a = some c → c ∈ l) : ∀ (f a e : Nat), e + f = 30 → a ∈ l → (∀ c, (clI u f a e).1 = c → c ∈ l → Ev b 35 28 [aR (some s), aR (some c), aI (nI (clI u f a e).2)] [] σ Q) → Ev b 35 4 [aR (some s), aR (some a), aI (nI e)] [] σ Q := by
  intro f
  induction f with
  | zero =>
    intro a e he ha h
    have he' : e = 30 := by omega
    subst he'
    have c1 : (30 : Int32) ≤ nI 30 := by decide
    obtain ⟨u1, u2⟩ := hu a ha
    rw [v_35_4]
    simp only [z10, z00, not_true_eq_false, not_false_eq_true, false_implies, true_implies, implies_true, nI_1, Int32.add_zero, true_or, or_true, true_and, and_true, eI_eq, eL_eq, eR_eq, eV_eq, lg_cmp_ge, lg_cmp_le, lg_cmp_gt, lg_cmp_lt, lg_cmp_eq, v_35_5, v_35_8, v_35_11, v_35_12, v_35_14, v_35_17, v_35_18, v_35_21, v_35_22, v_35_25, u1, u2, c1]
    exact ⟨fun _ => h a rfl ha, fun _ => h a rfl ha⟩
  | succ f ih =>
    intro a e he ha h
    have c1 : ¬ (30 : Int32) ≤ nI e := nI_ge (b := 30) (a := e) (by omega) (by omega)
    obtain ⟨u1, u2⟩ := hu a ha
    rw [v_35_4]
    simp only [z10, z00, not_true_eq_false, not_false_eq_true, false_implies, true_implies, implies_true, nI_1, Int32.add_zero, true_or, or_true, true_and, and_true, eI_eq, eL_eq, eR_eq, eV_eq, lg_cmp_ge, lg_cmp_le, lg_cmp_gt, lg_cmp_lt, lg_cmp_eq, v_35_5, v_35_8, v_35_11, v_35_12, v_35_14, v_35_17, v_35_18, v_35_21, v_35_22, v_35_25, u1, u2, c1]
    refine ⟨fun g => ?_, fun g => ?_⟩
    · have ec : clI u (f + 1) a e = (a, e) := by unfold clI; rw [g]
      rw [ec] at h
      exact h a rfl ha
    · cases hua : u a with
      | none => exact absurd hua g
      | some c =>
        have ec : clI u (f + 1) a e = clI u f c (e + 1) := by
          rw [clI, hua]
        rw [ec] at h
        exact ih c (e + 1) (by omega) (hul a c hua) h
theorem clI_step (u : Nat → Option Nat) : ∀ f a d, clI u (f + 1) a d = match u (clI u f a d).1 with
    | none => clI u f a d
    | some b => if (clI u f a d).2 = d + f then (b, d + f + 1) else clI u f a d := by
  intro f
  induction f with
  | zero =>
    intro a d
    rw [clI, clI]
    cases u a <;> simp [clI]
  | succ f ih =>
    intro a d
    rw [clI]
    cases hu : u a with
    | none =>
      have e : clI u (f + 1) a d = (a, d) := by unfold clI; rw [hu]
      rw [e, hu]
    | some b =>
      have e : clI u (f + 1) a d = clI u f b (d + 1) := by rw [clI, hu]
      simp only [e]
      rw [ih b (d + 1), show d + 1 + f = d + (f + 1) by omega]
theorem clI_le (u : Nat → Option Nat) : ∀ f a d, (clI u f a d).2 ≤ d + f ∧ ((clI u f a d).2 < d + f → u (clI u f a d).1 = none) := by
  intro f
  induction f with
  | zero => intro a d; exact ⟨Nat.le_refl _, fun q => absurd q (by simp [clI])⟩
  | succ f ih =>
    intro a d
    rw [clI]
    cases hu : u a with
    | none => exact ⟨by simp, fun _ => hu⟩
    | some b =>
      have := ih b (d + 1)
      simp only
      exact ⟨by omega, fun q => this.2 (by omega)⟩
/-- thirty steps say as much as thirty-one -/
theorem roI_30 (u : Nat → Option Nat) (a : Nat) : roI u a = (if u (clI u 30 a 0).1 = none then some (clI u 30 a 0).1 else none) ∧ (¬ roI u a = none → deI u a = (clI u 30 a 0).2) := by
  have e := clI_step u 30 a 0
  have hle := clI_le u 30 a 0
  unfold roI deI
  rw [show (31 : Nat) = 30 + 1 from rfl, e]
  cases hu : u (clI u 30 a 0).1 with
  | none =>
    have : ¬ 30 < (clI u 30 a 0).2 := by omega
    simp [this]
  | some b =>
    have h30 : (clI u 30 a 0).2 = 0 + 30 := by
      have := hle.2
      rw [hu] at this
      by_cases q : (clI u 30 a 0).2 < 0 + 30
      · exact absurd (this q) (by simp)
      · omega
    simp [h30]
theorem X_climb {d : Nat} {σ : Sto} {K : Sto → Prop} {s : Nat} {u : Nat → Option Nat} {l : List Nat} (hu : ∀ a, a ∈ l → gr σ a 9 = u a ∧ okO σ a 1) (hul : ∀ a c, u a = some c → c ∈ l) (hs : s ∈ l) (h : K (si (sr σ s 10 (roI u s)) s 11 (nI (clI u 30 s 0).2))) : CV d 35 [aR (some s)] σ K := by
  refine CV_of ?_
  show Ev (d, 0, 0) 35 0 [aR (some s), aU, aU] [] σ _
  simp only [z10, z00, not_true_eq_false, not_false_eq_true, false_implies, true_implies, implies_true, nI_1, Int32.add_zero, true_or, or_true, true_and, and_true, eI_eq, eL_eq, eR_eq, eV_eq, lg_cmp_ge, lg_cmp_le, lg_cmp_gt, lg_cmp_lt, lg_cmp_eq, v_35_0, v_35_1, v_35_2, v_35_3]
  have := X_climb_loop (b := (d, 0, 0)) (Q := eV K) (s := s) hu hul 30 s 0 (by omega) hs (fun c hc hcl => by
    obtain ⟨u1, u2⟩ := hu c hcl
    have hs1 := (hu s hs).2
    have e := (roI_30 u s).1
    rw [hc] at e
    simp only [z10, z00, not_true_eq_false, not_false_eq_true, false_implies, true_implies, implies_true, nI_1, Int32.add_zero, true_or, or_true, true_and, and_true, eI_eq, eL_eq, eR_eq, eV_eq, lg_cmp_ge, lg_cmp_le, lg_cmp_gt, lg_cmp_lt, lg_cmp_eq, v_35_28, v_35_29, v_35_30, v_35_33, v_35_36, v_35_37, v_35_40, v_35_41, v_35_44, v_35_45, v_35_46, v_35_49, u1, u2, hs1, okO_sr]
    refine ⟨fun g => ?_, fun g => ?_⟩
    · rw [if_neg g] at e; rw [e] at h; exact h
    · rw [if_pos g] at e; rw [e] at h; exact h)
  simpa only [nI_0] using this
/-- settled -/
def SET (σ : Sto) (l : List Nat) : Prop := ∀ a, a ∈ l → gr σ a 9 = uX σ l a ∧ gr σ a 10 = roI (uX σ l) a ∧ (¬ roI (uX σ l) a = none → gi σ a 11 = nI (deI (uX σ l) a))
/-- a trace's spans -/
def Tr (σ : Sto) (T : Nat) (l : List Nat) : Prop := okO σ T 3 ∧ T < 103 ∧ gr σ T 0 = l.head? ∧ lkt σ l none ∧ l.Nodup ∧ (gi σ T 2 = 0 ∨ (gi σ T 2 = 1 ∧ SET σ l))
theorem X_settle1 {d : Nat} {σ : Sto} {Q : Po} {T : Nat} {l : List Nat} (hO : okO σ T 3) (hT : T < 103) (hf : gr σ T 0 = l.head?) (hl : lkt σ l none) (hnd : l.Nodup) : ∀ (rest pre : List Nat) (σ1 : Sto), l = pre ++ rest → scS l T σ σ1 → (∀ a, a ∈ pre → gr σ1 a 9 = uX σ l a) → (∀ σ2, scS l T σ σ2 → (∀ a, a ∈ l → gr σ2 a 9 = uX σ l a) → Ev (d + 1, 0, 0) 34 37 [aR (some T), aR none] [] σ2 Q) → Ev (d + 1, 0, 0) 34 13 [aR (some T), aR rest.head?] [] σ1 Q := by
  intro rest
  induction rest with
  | nil =>
    intro pre σ1 e1 hs hu h
    rw [List.append_nil] at e1
    rw [v_34_13]
    simp only [List.head?_nil, v_34_14, z10, z00, not_true_eq_false, not_false_eq_true, false_implies, true_implies, implies_true, true_and, and_true, true_or, or_true, false_and, and_false, false_or, or_false]
    exact h σ1 hs (fun a ha => hu a (e1 ▸ ha))
  | cons a rest ih =>
    intro pre σ1 e1 hs hu h
    have hl1 := hs.lk hl
    have hlr := hl1
    rw [e1, lkt_append] at hlr
    obtain ⟨h1, h2, h3, h4⟩ := hlr.2
    rw [Option.or_none] at h3
    have hO1 : okO σ1 T 3 := ⟨by rw [hs.1]; exact hO.1, hO.2⟩
    have hf1 : gr σ1 T 0 = l.head? := by rw [hs.2.2.2 T 0 (by omega)]; exact hf
    have hal : a ∈ l := by rw [e1]; simp
    rw [v_34_13]
    simp only [List.head?_cons, reduceCtorEq, z10, z00, not_true_eq_false, not_false_eq_true, false_implies, true_implies, implies_true, nI_1, Int32.add_zero, true_or, or_true, true_and, and_true, eI_eq, eL_eq, eR_eq, eV_eq, lg_cmp_ge, lg_cmp_le, lg_cmp_gt, lg_cmp_lt, lg_cmp_eq, v_34_14, v_34_17, v_34_18, v_34_19, v_34_20, v_34_23, okS_of h1 h2, hO1, z10, z00, not_true_eq_false, not_false_eq_true, false_implies, true_implies, implies_true, true_and, and_true, true_or, or_true, false_and, and_false, false_or, or_false]
    refine X_find hO1 hf1 hl1 ?_
    have eu : l.find? (nuX σ1 (gi σ1 a 1)) = uX σ l a := by
      rw [← uX_eq h1, hs.u hT (fun b hb => (lkt_mem hl b hb).1)]
    rw [eu]
    have e8 : gr (sr σ1 a 9 (uX σ l a)) a 8 = rest.head? := by rw [gr_sr_k, if_neg (by omega)]; exact h3
    simp only [z10, z00, not_true_eq_false, not_false_eq_true, false_implies, true_implies, implies_true, nI_1, Int32.add_zero, true_or, or_true, true_and, and_true, eI_eq, eL_eq, eR_eq, eV_eq, lg_cmp_ge, lg_cmp_le, lg_cmp_gt, lg_cmp_lt, lg_cmp_eq, v_34_26, v_34_29, v_34_30, v_34_33, v_34_34, okS_of h1 h2, okO_sr, e8]
    refine ih (pre ++ [a]) _ (by rw [e1, List.append_assoc]; rfl) (hs.trans ⟨rfl, rfl, fun _ _ _ _ => rfl, fun b k q => ?_⟩) (fun b hb => ?_) h
    · rw [gr_sr_k, if_neg (fun z => q ⟨by rw [z.1]; exact hal, Or.inl z.2⟩)]
    · rw [gr_sr_k]
      by_cases e : b = a
      · rw [if_pos ⟨e, rfl⟩, e]
      · rw [if_neg (fun z => e z.1)]
        rcases List.mem_append.mp hb with q | q
        · exact hu b q
        · exact absurd (List.mem_singleton.mp q) e
theorem X_settle2 {d : Nat} {σ : Sto} {Q : Po} {T : Nat} {l : List Nat} {u : Nat → Option Nat} (hT : T < 103) (hl : lkt σ l none) (hnd : l.Nodup) (hu : ∀ a, a ∈ l → gr σ a 9 = u a) (hul : ∀ a c, u a = some c → c ∈ l) : ∀ (rest pre : List Nat) (σ1 : Sto), l = pre ++ rest → scS l T σ σ1 → (∀ a, a ∈ l → gr σ1 a 9 = u a) → (∀ a, a ∈ pre → gr σ1 a 10 = roI u a ∧ gi σ1 a 11 = nI (clI u 30 a 0).2) → (∀ σ2, scS l T σ σ2 → (∀ a, a ∈ l → gr σ2 a 9 = u a ∧ gr σ2 a 10 = roI u a ∧ gi σ2 a 11 = nI (clI u 30 a 0).2) → Ev (d + 1, 0, 0) 34 58 [aR (some T), aR none] [] σ2 Q) → Ev (d + 1, 0, 0) 34 42 [aR (some T), aR rest.head?] [] σ1 Q := by
  intro rest
  induction rest with
  | nil =>
    intro pre σ1 e1 hs h9 hp h
    rw [List.append_nil] at e1
    rw [v_34_42]
    simp only [List.head?_nil, v_34_43, z10, z00, not_true_eq_false, not_false_eq_true, false_implies, true_implies, implies_true, true_and, and_true, true_or, or_true, false_and, and_false, false_or, or_false]
    exact h σ1 hs (fun a ha => ⟨h9 a ha, hp a (e1 ▸ ha)⟩)
  | cons a rest ih =>
    intro pre σ1 e1 hs h9 hp h
    have hl1 := hs.lk hl
    have hlr := hl1
    rw [e1, lkt_append] at hlr
    obtain ⟨h1, h2, h3, h4⟩ := hlr.2
    rw [Option.or_none] at h3
    have hal : a ∈ l := by rw [e1]; simp
    rw [v_34_42]
    simp only [List.head?_cons, reduceCtorEq, z10, z00, not_true_eq_false, not_false_eq_true, false_implies, true_implies, implies_true, nI_1, Int32.add_zero, true_or, or_true, true_and, and_true, eI_eq, eL_eq, eR_eq, eV_eq, lg_cmp_ge, lg_cmp_le, lg_cmp_gt, lg_cmp_lt, lg_cmp_eq, v_34_43, v_34_46, v_34_47, z10, z00, not_true_eq_false, not_false_eq_true, false_implies, true_implies, implies_true, true_and, and_true, true_or, or_true, false_and, and_false, false_or, or_false]
    refine X_climb (u := u) (l := l) (fun b hb => ⟨h9 b hb, okS_of (lkt_mem hl1 b hb).1 (lkt_mem hl1 b hb).2⟩) hul hal ?_
    have e8 : ∀ x y, gr (si (sr σ1 a 10 x) a 11 y) a 8 = rest.head? := fun x y => by rw [gr_si_r, gr_sr_k, if_neg (by omega)]; exact h3
    simp only [z10, z00, not_true_eq_false, not_false_eq_true, false_implies, true_implies, implies_true, nI_1, Int32.add_zero, true_or, or_true, true_and, and_true, eI_eq, eL_eq, eR_eq, eV_eq, lg_cmp_ge, lg_cmp_le, lg_cmp_gt, lg_cmp_lt, lg_cmp_eq, v_34_50, v_34_51, v_34_54, v_34_55, okS_of h1 h2, okO_sr, okO_si, e8]
    refine ih (pre ++ [a]) _ (by rw [e1, List.append_assoc]; rfl) (hs.trans ⟨rfl, rfl, fun b k q1 q2 => ?_, fun b k q => ?_⟩) (fun b hb => ?_) (fun b hb => ?_) h
    · rw [gi_si_k, if_neg (fun z => q1 ⟨by rw [z.1]; exact hal, z.2⟩)]; rfl
    · rw [gr_si_r, gr_sr_k, if_neg (fun z => q ⟨by rw [z.1]; exact hal, Or.inr z.2⟩)]
    · rw [gr_si_r, gr_sr_k, if_neg (by omega)]; exact h9 b hb
    · rw [gr_si_r, gr_sr_k, gi_si_k]
      by_cases e : b = a
      · rw [if_pos ⟨e, rfl⟩, if_pos ⟨e, rfl⟩, e]; exact ⟨rfl, rfl⟩
      · rw [if_neg (fun z => e z.1), if_neg (fun z => e z.1)]
        rcases List.mem_append.mp hb with q | q
        · exact hp b q
        · exact absurd (List.mem_singleton.mp q) e
theorem X_settle {d : Nat} {σ : Sto} {K : Sto → Prop} {T : Nat} {l : List Nat} (hTr : Tr σ T l) (h : ∀ σ', scS l T σ σ' → Tr σ' T l → SET σ' l → K σ') : CV (d + 1) 34 [aR (some T)] σ K := by
  obtain ⟨hO, hT, hf, hl, hnd, hst⟩ := hTr
  have hge : ∀ a, a ∈ l → 103 ≤ a := fun a ha => (lkt_mem hl a ha).1
  have hTl : T ∉ l := fun q => by have := hge T q; omega
  refine CV_of ?_
  show Ev (d + 1, 0, 0) 34 0 [aR (some T), aU] [] σ _
  simp only [z10, z00, not_true_eq_false, not_false_eq_true, false_implies, true_implies, implies_true, nI_1, Int32.add_zero, true_or, or_true, true_and, and_true, eI_eq, eL_eq, eR_eq, eV_eq, lg_cmp_ge, lg_cmp_le, lg_cmp_gt, lg_cmp_lt, lg_cmp_eq, v_34_0, v_34_1, v_34_4, v_34_7, v_34_8, v_34_9, v_34_12, hO, hf]
  refine ⟨fun g => ?_, fun g => ?_⟩
  · refine X_settle1 hO hT hf hl hnd l [] σ rfl (scS.rfl l T σ) (fun a ha => by cases ha) (fun σ2 hs2 hu2 => ?_)
    have hO2 : okO σ2 T 3 := ⟨by rw [hs2.1]; exact hO.1, hO.2⟩
    have hf2 : gr σ2 T 0 = l.head? := by rw [hs2.2.2.2 T 0 (fun q => hTl q.1)]; exact hf
    have hl2 := hs2.lk hl
    simp only [z10, z00, not_true_eq_false, not_false_eq_true, false_implies, true_implies, implies_true, nI_1, Int32.add_zero, true_or, or_true, true_and, and_true, eI_eq, eL_eq, eR_eq, eV_eq, lg_cmp_ge, lg_cmp_le, lg_cmp_gt, lg_cmp_lt, lg_cmp_eq, v_34_37, v_34_38, v_34_41, hO2, hf2]
    refine X_settle2 (u := uX σ l) hT hl2 hnd hu2 (fun a c e => uX_mem e) l [] σ2 rfl (scS.rfl l T σ2) hu2 (fun a ha => by cases ha) (fun σ3 hs3 hu3 => ?_)
    have hO3 : okO σ3 T 3 := ⟨by rw [hs3.1]; exact hO2.1, hO.2⟩
    have hs4 : scS l T σ (si σ3 T 2 1) := (hs2.trans hs3).trans ⟨rfl, rfl, fun b k _ q2 => by rw [gi_si_k, if_neg q2], fun _ _ _ => rfl⟩
    have hu4 : uX (si σ3 T 2 1) l = uX σ l := hs4.u hT hge
    have hS4 : SET (si σ3 T 2 1) l := fun a ha => by
      rw [hu4]
      obtain ⟨q1, q2, q3⟩ := hu3 a ha
      refine ⟨q1, q2, fun q => ?_⟩
      rw [gi_si_k, if_neg (show ¬ (a = T ∧ 11 = 2) by omega), (roI_30 (uX σ l) a).2 q]
      exact q3
    simp only [z10, z00, not_true_eq_false, not_false_eq_true, false_implies, true_implies, implies_true, nI_1, Int32.add_zero, true_or, or_true, true_and, and_true, eI_eq, eL_eq, eR_eq, eV_eq, lg_cmp_ge, lg_cmp_le, lg_cmp_gt, lg_cmp_lt, lg_cmp_eq, v_34_58, v_34_59, v_34_60, v_34_63, hO3]
    refine h _ hs4 ⟨hO3, hT, ?_, hs4.lk hl, hnd, Or.inr ⟨by rw [gi_si_k, if_pos ⟨rfl, rfl⟩], hS4⟩⟩ hS4
    rw [hs4.2.2.2 T 0 (fun q => hTl q.1)]
    exact hf
  · rcases hst with q | q
    · exact absurd q g
    · exact h σ (scS.rfl l T σ) ⟨hO, hT, hf, hl, hnd, Or.inr q⟩ q.2
