/-! contracts out of bodies, calls out of contracts -/
def rmd (d : Nat) (o : Nat × Nat) : Room := { frames := d, cells := o.1, slots := o.2, locals := 64 * d }
def wsk (k : Nat) : List Cond := Cond.code (mY k) (mB k) (mX k) (mT k) :: Tg
def Pcc (G : GG) (vs : List AV) (σ : Sto) : Array Value → State → Prop := fun a U => a = (vs.map (rho G)).toArray ∧ Sim G σ U.heap ∧ KK G U
def Qcc (G : GG) (k : Nat) (S : Po) : Array Value → State → Outcome → State → Prop := fun _ st o t => ∃ (r : Option AV) (σ' : Sto), o = .returned (r.map (rho G)) ∧ (∃ i, rtI k i r) ∧ S r σ' ∧ Sim G σ' t.heap ∧ va_F (Fre G) st t
theorem lent_args (G : GG) : ∀ (vs : List AV) (j i : Nat) (v : AV), (lent0 vs)[i]? = some v → v ≠ aU → (j + i, rho G v) ∈ lv_args j (vs.map (rho G))
  | [], j, i, v, h, hu => by simp [lent0] at h
  | w :: t, j, i, v, h, hu => by
    have key : ∀ n, ((lent0 t)[i - n]? = some v → (j + n + (i - n), rho G v) ∈ lv_args (j + n) (t.map (rho G))) := fun n h => lent_args G t (j + n) (i - n) v h hu
    rcases w with x | x | x | x
    · cases i with
      | zero =>
        simp only [lent0, List.getElem?_cons_zero, Option.some.injEq] at h
        subst h
        exact List.mem_cons_self
      | succ i =>
        simp only [lent0, List.getElem?_cons_succ] at h
        have z := key 1 (by simpa using h)
        have e : j + 1 + (i + 1 - 1) = j + (i + 1) := by omega
        rw [e] at z
        exact List.mem_cons_of_mem _ z
    · cases i with
      | zero =>
        simp only [lent0, List.getElem?_cons_zero, Option.some.injEq] at h
        subst h
        exact List.mem_cons_self
      | succ i =>
        simp only [lent0, List.getElem?_cons_succ] at h
        cases i with
        | zero =>
          simp only [List.getElem?_cons_zero, Option.some.injEq] at h
          exact absurd h.symm hu
        | succ i =>
          simp only [List.getElem?_cons_succ] at h
          have z := key 2 (by simpa using h)
          have e : j + 2 + (i + 1 + 1 - 2) = j + (i + 1 + 1) := by omega
          rw [e] at z
          exact List.mem_cons_of_mem _ z
    · cases i with
      | zero =>
        simp only [lent0, List.getElem?_cons_zero, Option.some.injEq] at h
        subst h
        exact List.mem_cons_self
      | succ i =>
        simp only [lent0, List.getElem?_cons_succ] at h
        have z := key 1 (by simpa using h)
        have e : j + 1 + (i + 1 - 1) = j + (i + 1) := by omega
        rw [e] at z
        refine List.mem_cons_of_mem _ ?_
        have e2 : (rho G (.inr (.inr (.inl x)))).category = 1 := rho_cat G _
        rw [if_neg (by rw [e2]; decide)]
        exact z
    · cases i with
      | zero =>
        simp only [lent0, List.getElem?_cons_zero, Option.some.injEq] at h
        exact absurd h.symm hu
      | succ i =>
        simp only [lent0, List.getElem?_cons_succ] at h
        have z := key 1 (by simpa using h)
        have e : j + 1 + (i + 1 - 1) = j + (i + 1) := by omega
        rw [e] at z
        exact List.mem_cons_of_mem _ z
theorem lent_len (G : GG) : ∀ vs : List AV, (lg_sl (vs.map (rho G))).length = (lent0 vs).length
  | [] => rfl
  | w :: t => by
    have ih := lent_len G t
    rcases w with x | x | x | x
    · simp only [lg_sl, List.map_cons, List.flatMap_cons, List.length_append] at ih ⊢
      simp only [lent0, List.length_cons, ← ih]
      rw [if_neg (by rw [rho_cat]; exact (by decide : ¬ (1 : Nat) = 2))]
      simp only [List.length_cons, List.length_nil]
      omega
    · simp only [lg_sl, List.map_cons, List.flatMap_cons, List.length_append] at ih ⊢
      simp only [lent0, List.length_cons, ← ih]
      rw [if_pos (by rw [rho_cat]; rfl)]
      simp only [List.length_cons, List.length_nil]
      omega
    · simp only [lg_sl, List.map_cons, List.flatMap_cons, List.length_append] at ih ⊢
      simp only [lent0, List.length_cons, ← ih]
      rw [if_neg (by rw [rho_cat]; exact (by decide : ¬ (1 : Nat) = 2))]
      simp only [List.length_cons, List.length_nil]
      omega
    · simp only [lg_sl, List.map_cons, List.flatMap_cons, List.length_append] at ih ⊢
      simp only [lent0, List.length_cons, ← ih]
      rw [if_neg (by rw [rho_cat]; exact (by decide : ¬ (1 : Nat) = 2))]
      simp only [List.length_cons, List.length_nil]
      omega
theorem lent_lvo {G : GG} {vs : List AV} {n : Nat} {ls : Array Slot} (h : lv_has ls n (lv_args 0 (vs.map (rho G)))) : lvo G ls n (lent vs n) := by
  refine ⟨h.1, h.2.1, fun i v hi hv => ?_⟩
  unfold lent at hi
  by_cases hl : i < (lent0 vs).length
  · rw [List.getElem?_append_left hl] at hi
    have z := lent_args G vs 0 i v hi hv
    rw [Nat.zero_add] at z
    exact h.2.2 _ z
  · rw [List.getElem?_append_right (by omega)] at hi
    have := List.mem_of_getElem? hi
    exact absurd (List.eq_of_mem_replicate this) hv
theorem rt_cases {k : Nat} {i : Instr} {r : Option AV} (h : rtI k i r) : (i = .return_ ∧ mK k = 0 ∧ r = none) ∨ (∃ x, i = .ireturn ∧ mK k = 1 ∧ r = some (aI x)) ∨ (∃ x, i = .ireturn ∧ mK k = 4 ∧ r = some (aI x) ∧ (x = 0 ∨ x = 1)) ∨ (∃ x, i = .lreturn ∧ mK k = 2 ∧ r = some (aL x)) ∨ (∃ x, i = .areturn ∧ mK k = 3 ∧ r = some (aR x)) := by
  unfold rtI at h
  split at h
  · rename_i e1; exact Or.inl ⟨rfl, by assumption, rfl⟩
  · exact Or.inr (Or.inl ⟨_, rfl, by assumption, rfl⟩)
  · exact Or.inr (Or.inr (Or.inl ⟨_, rfl, by assumption, rfl, h⟩))
  · exact Or.inr (Or.inr (Or.inr (Or.inl ⟨_, rfl, by assumption, rfl⟩)))
  · exact Or.inr (Or.inr (Or.inr (Or.inr ⟨_, rfl, by assumption, rfl⟩)))
  · exact h.elim
theorem met_of {G : GG} {d k : Nat} {vs : List AV} {σ : Sto} {S : Po} (hm : LKm k) (hlen : (lent0 vs).length ≤ mX k) (h : WPs G (d, mO k) k 0 (lent vs (mX k)) [] σ S) :
    Met (gA G) (mY k) (wsk k) (rmd d (mO k)) (Pcc G vs σ) (Qcc G k S) (mO k).1 (mO k).2 (Fre G) := by
  refine Met.ofW (cc := mB k) (maxL := mX k) (ret := mT k) hm.1 rfl ?_
  intro p e s m args below meth c s₁ B hml hv
  obtain ⟨rfl, hSim, hKK⟩ := hv
  have hx := B.exec
  have hb := B.bytes
  have hr := B.returns
  have hts := atoms_spec (ws := wsk k) B.pre
  have hown : s.vm.findClass (mY k).cls = some m.cls := findClass_of_methodNamed B.named
  have hlocks := B.notSynchronized
  have hin : meth.name = (mY k).name := (name_of_methodNamed B.named B.method).1
  rw [lg_entry_eq]
  have hl := lv_entry (vs.map (rho G)) (n := mX k) (by rw [lent_len]; exact hlen)
  generalize (lg_sl (vs.map (rho G)) ++ List.replicate (mX k - (lg_sl (vs.map (rho G))).length) Slot.unset).toArray = ls at hl ⊢
  refine h p e (rmd d (mO k)) s m _ below meth c _ ⟨hx, hb, hml, hown, fun w hw => hts w (List.mem_cons_of_mem _ hw), hKK, Nat.le_refl _, Nat.le_refl _, fun hi => hin.trans (of_decide_eq_true hi), ?_⟩ s.heap [] 0 0 ls hSim va_S.rf (lent_lvo hl) (by show 0 + _ ≤ _; rw [Nat.zero_add]; exact Nat.le_refl _) (by show 0 + _ ≤ _; rw [Nat.zero_add]; exact Nat.le_refl _)
  intro r σ' pc H locs cells slots ls2 i hrt hQ hd hS2 hF2 hc2 hs2
  have hret := hm.2.2.2.2.2
  refine W.widen (k := (mO k).1) (n := (mO k).2) hc2 hs2 ?_
  unfold retOK at hret
  rcases rt_cases hrt with ⟨rfl, hk, rfl⟩ | ⟨x, rfl, hk, rfl⟩ | ⟨x, rfl, hk, rfl, hx01⟩ | ⟨x, rfl, hk, rfl⟩ | ⟨x, rfl, hk, rfl⟩
  · rw [hk] at hret
    exact W.vret hx hb (hr.trans hret) (fun t ht hW => ⟨none, σ', rfl, ⟨_, hrt⟩, hQ, by rw [ht]; exact hS2, hF2.F ht⟩) hF2.2.2 hd
  · rw [hk] at hret
    exact W.iret hx hb (hr.trans hret) (fun t ht hW => ⟨some (aI x), σ', rfl, ⟨_, hrt⟩, hQ, by rw [ht]; exact hS2, hF2.F ht⟩) hF2.2.2 hd
  · rw [hk] at hret
    exact W.zret hx hb (hr.trans hret) (by rcases hx01 with rfl | rfl <;> rfl) (fun t ht hW => ⟨some (aI x), σ', rfl, ⟨_, hrt⟩, hQ, by rw [ht]; exact hS2, hF2.F ht⟩) hF2.2.2 hd
  · rw [hk] at hret
    exact W.lret hx hb (hr.trans hret) (fun t ht hW => ⟨some (aL x), σ', rfl, ⟨_, hrt⟩, hQ, by rw [ht]; exact hS2, hF2.F ht⟩) hF2.2.2 hd
  · rw [hk] at hret
    obtain ⟨n, hret⟩ := hret
    exact W.aret (v := rvo G x) hx hb (hr.trans hret) (Or.inl ⟨n, rfl⟩) (by cases x with
      | none => exact Or.inl rfl
      | some x => exact Or.inr ⟨_, rfl⟩) (fun t ht hW => ⟨some (aR x), σ', rfl, ⟨_, hrt⟩, hQ, by rw [ht]; exact hS2, hF2.F ht⟩) hF2.2.2 hd
theorem blind (G : GG) (vs : List AV) (σ : Sto) : FrameBlind (Pcc G vs σ) := fun a U g mk q => ⟨q.1, q.2.1, KK.same (s := U) (U := U.calling g mk a) rfl q.2.2⟩
theorem good_Tg {w : Cond} (h : w ∈ Tg) : (w.onTables && w.keeps) = true ∨ ∃ ty, w = .arrayClass ty := good_of_word (List.mem_filter.mp h).2
theorem good_wsk {k : Nat} (hm : LKm k) : GoodIn Tg (wsk k) := fun w hw => by
  rcases List.mem_cons.mp hw with rfl | hw
  · exact ⟨hm.2.1, good_Tg hm.2.1⟩
  · exact ⟨hw, good_Tg hw⟩
section
variable {p : Program} {l : Launch} {e : Env} {R : Room} {s : State} {m : MethodId} {args : Array Value} {below : List Frame} {meth : Method} {c : Code} {H : Heap} {locs : List Loc} {cells slots : Nat} {QQ : State → Prop}
theorem call_go {G : GG} {k' pc mc ms : Nat} {S : Po} {ls : Array Slot} {rest st0 : List Value} {a : Array Value} (hr : va_Run p l e R s m args below meth c H locs cells slots mc ms (F0 m pc ls st0) rest (Qcc G k' S a) (Fre G)) (hF : va_S (Fre G) s.heap H locs)
    (kk : ∀ (r : Option AV) (σ' : Sto) (H1 : Heap) (locs1 : List Loc), (∃ i, rtI k' i r) → S r σ' → Sim G σ' H1 → va_S (Fre G) s.heap H1 locs1 → W p l e R s m args below meth c H1 locs1 (cells + mc) (slots + ms) QQ (F0 m (pc + 3) ls ((r.map (rho G)).toList ++ rest))) : W p l e R s m args below meth c H locs cells slots QQ (F0 m pc ls st0) := by
  intro T hT X
  obtain ⟨v, st₀, t, T', L, h0, X', hL, e1, e2, ⟨r, σ', hv, hi, hS, hSim, hz, hk⟩, st⟩ := hr T hT X
  have hv' : v = r.map (rho G) := Outcome.returned.inj hv
  subst hv'
  rw [h0] at hz hk
  obtain ⟨t2, a1, b1⟩ := kk r σ' T'.heap (locs ++ L) hi hS (by rw [e1]; exact hSim)
    ⟨Nat.le_trans hF.1 (by rw [e1]; exact hz), fun q h1 h2 => by rw [e1, hk q (Nat.lt_of_lt_of_le h1 hF.1) h2]; exact hF.2.1 q h1 h2, fun q hq => by
      rcases List.mem_append.mp hq with h | h
      · exact hF.2.2 q h
      · exact hL q h⟩ T' rfl X'
  exact ⟨t2, st t2 a1, b1⟩
end
section
variable {G : GG} {k pc : Nat} {lc st r : List AV} {σ : Sto} {Q : Po}
theorem back_go {P : EvT} {b' : B3} {k' pc' : Nat} {rest : List AV} {S : Po} (hv : vback P k lc Q b' pc' k' rest S) {ret : Option AV} {σ' : Sto} (hi : ∃ i, rtI k' i ret) (hS : S ret σ') : P b' k pc' lc (ret.toList ++ rest) σ' Q := by
  obtain ⟨i, hi⟩ := hi
  unfold vback at hv
  rcases rt_cases hi with ⟨rfl, hk, rfl⟩ | ⟨x, rfl, hk, rfl⟩ | ⟨x, rfl, hk, rfl, hx01⟩ | ⟨x, rfl, hk, rfl⟩ | ⟨x, rfl, hk, rfl⟩ <;> rw [hk] at hv
  · exact hv σ' hS
  · exact hv x σ' hS
  · exact hv x σ' hS
  · exact hv x σ' hS
  · exact hv x σ' hS
theorem app_map (G : GG) (ret : Option AV) (rest : List AV) : (ret.toList ++ rest).map (rho G) = (ret.map (rho G)).toList ++ rest.map (rho G) := by
  cases ret <;> rfl
theorem so_callV {x k' ci na a d c0 s0 : Nat} {vs rest : List AV} {S : Po} (hd : decode (mB k) pc = .ok (.invokevirtual x, 3)) (hk : lok k x = true) (hq : alook mlkT (mC k * 1000 + x) = some (0, k', ci, na)) (ho : okO σ a ci) (hn : vs.length = na) (hw : wsum rest ≤ 8) (hle : (lent0 (aR (some a) :: vs)).length ≤ mX k')
    (h1 : (mO k').1 ≤ c0) (h2 : (mO k').2 ≤ s0) (hS0 : WPs G (d, mO k') k' 0 (lent (aR (some a) :: vs) (mX k')) [] σ S) (hv : vback (WPs G) k lc Q (d + 1, c0 - (mO k').1, s0 - (mO k').2) (pc + 3) k' rest S) : WPs G (d + 1, c0, s0) k pc lc (vs.reverse ++ aR (some a) :: rest) σ Q := fun p e R s m args below meth c QQ C H locs cells slots ls hS hF hl hc hs => by
  obtain ⟨hm, np, l1, l2, l3, l4, l5⟩ := lkAll _ (alook_mem _ _ _ hq)
  obtain ⟨e1, e2, -⟩ := lok_d hk
  rw [e1, e2] at l1
  have hts := C.2.2.2.2.1
  have hM := met_of hm hle hS0
  obtain ⟨d1, d2, d3, d4, -⟩ := clAll ci l4
  have ha : 1 ≤ a := pos_of ho.2 (by omega)
  obtain ⟨cell, q1, q2, q3, q4⟩ := (hS.2.2.2.2.2.2.2.2 a ha ho.1).obj ho.2 l4
  have hfc := (C.2.2.2.2.2.1.1.1 ci _ d1).2.1
  have hR := C.2.2.2.2.2.2.1
  have hR2 := C.2.2.2.2.2.2.2.1
  dsimp only at hc hs hR hR2
  have hX := hm.2.2.2.2.1
  refine call_go (va_runV (C := (mY k').cls) (As := vs.map (rho G)) (rest := rest.map (rho G)) (b := ad G a) (n := na) (bytes := mB k') (maxL := mX k') (ret := mT k') ⟨C.1, C.2.1, C.2.2.1, C.2.2.2.1, hts⟩ hM
    ⟨⟨rfl, rfl, hR, by show 8 + (mX k' + 11) + 64 * d ≤ _; omega, pay_in hts (good_wsk hm), List.mem_cons_self, hts _ hm.2.1, hts _ hm.2.2.1, hm.2.2.2.1, fun sig hsig => ?_, hts _ l1⟩, hts _ l2, hts _ l3⟩
    ⟨blind _ _ _, ⟨cell, q1, by rw [q3]; rfl, by rw [q2, ← l5]; exact hfc⟩, fun U hU hW => ⟨rfl, by rw [hU]; exact hS, KK.warm hW C.2.2.2.2.2.1⟩⟩ rfl (by rw [List.length_map]; exact hn) hl.1 ?_ (by show 2 * 0 + _ ≤ _; rw [wsum_eq]; omega) hd ⟨by omega, by omega⟩) hF ?_
  · have z := np
    unfold nPar at z
    rw [hsig] at z
    exact (Option.some.inj z).symm
  · show List.map (rho G) (vs.reverse ++ aR (some a) :: rest) = _
    rw [List.map_append, List.map_reverse]
    rfl
  · intro ret σ' H1 locs1 hi hSr hS1 hF1
    rw [← app_map]
    refine back_go hv hi hSr p e R s m args below meth c QQ C H1 locs1 _ _ ls hS1 hF1 hl ?_ ?_
    · dsimp only; omega
    · dsimp only; omega
theorem so_callS {x k' ci na d c0 s0 kd0 : Nat} {vs rest : List AV} {S : Po} (hd : decode (mB k) pc = .ok (.invokestatic x, 3)) (hk : lok k x = true) (hq : alook mlkT (mC k * 1000 + x) = some (kd0, k', ci, na)) (hkd : kd0 = 2 ∨ kd0 = 5) (hn : vs.length = na) (hw : wsum rest ≤ 8) (hle : (lent0 vs).length ≤ mX k')
    (h1 : (mO k').1 ≤ c0) (h2 : (mO k').2 ≤ s0) (hS0 : WPs G (d, mO k') k' 0 (lent vs (mX k')) [] σ S) (hv : vback (WPs G) k lc Q (d + 1, c0 - (mO k').1, s0 - (mO k').2) (pc + 3) k' rest S) : WPs G (d + 1, c0, s0) k pc lc (vs.reverse ++ rest) σ Q := fun p e R s m args below meth c QQ C H locs cells slots ls hS hF hl hc hs => by
  have hlk := lkAll _ (alook_mem _ _ _ hq)
  obtain ⟨e1, e2, -⟩ := lok_d hk
  have hts := C.2.2.2.2.1
  have hR := C.2.2.2.2.2.2.1
  have hR2 := C.2.2.2.2.2.2.2.1
  dsimp only at hc hs hR hR2
  have hend : ∀ (ret : Option AV) (σ' : Sto) (H1 : Heap) (locs1 : List Loc), (∃ i, rtI k' i ret) → S ret σ' → Sim G σ' H1 → va_S (Fre G) s.heap H1 locs1 → W p (gA G) e R s m args below meth c H1 locs1 (cells + (mO k').1) (slots + (mO k').2) QQ (F0 m (pc + 3) ls ((ret.map (rho G)).toList ++ rest.map (rho G))) := by
    intro ret σ' H1 locs1 hi hSr hS1 hF1
    rw [← app_map]
    refine back_go hv hi hSr p e R s m args below meth c QQ C H1 locs1 _ _ ls hS1 hF1 hl ?_ ?_
    · dsimp only; omega
    · dsimp only; omega
  have hst : List.map (rho G) (vs.reverse ++ rest) = (vs.map (rho G)).reverse ++ rest.map (rho G) := by rw [List.map_append, List.map_reverse]
  rcases hkd with rfl | rfl
  · obtain ⟨hm, np, l1, l2⟩ := hlk
    rw [e1, e2] at l1
    have hM := met_of hm hle hS0
    have hX := hm.2.2.2.2.1
    refine call_go (va_runS (As := vs.map (rho G)) (rest := rest.map (rho G)) (n := na) (bytes := mB k') (maxL := mX k') (ret := mT k') ⟨C.1, C.2.1, C.2.2.1, C.2.2.2.1, hts⟩ hM
      ⟨⟨rfl, rfl, hR, by show 8 + (mX k' + 11) + 64 * d ≤ _; omega, pay_in hts (good_wsk hm), List.mem_cons_self, hts _ hm.2.1, hts _ hm.2.2.1, hm.2.2.2.1, fun sig hsig => ?_, hts _ l1⟩, hts _ l2⟩
      ⟨blind _ _ _, fun U hU hW => ⟨rfl, by rw [hU]; exact hS, KK.warm hW C.2.2.2.2.2.1⟩⟩ rfl (by rw [List.length_map]; exact hn) hl.1 hst (by show 2 * 0 + _ ≤ _; rw [wsum_eq]; omega) hd ⟨by omega, by omega⟩) hF hend
    have z := np
    unfold nPar at z
    rw [hsig] at z
    exact (Option.some.inj z).symm
  · obtain ⟨hm, np, l1, l2⟩ := hlk
    have hM := met_of hm hle hS0
    have hX := hm.2.2.2.2.1
    have hN := C.2.2.2.2.2.1.2.2.2 _ l1
    rw [e1, e2] at hN
    refine call_go (va_runSN (As := vs.map (rho G)) (rest := rest.map (rho G)) (n := na) (host := "TracePost") (bytes := mB k') (maxL := mX k') (ret := mT k') ⟨C.1, C.2.1, C.2.2.1, C.2.2.2.1, hts⟩ hM
      ⟨⟨⟨rfl, rfl, hR, by show 8 + (mX k' + 11) + 64 * d ≤ _; omega, pay_in hts (good_wsk hm), List.mem_cons_self⟩, hts _ hm.2.1, hts _ hm.2.2.1, hm.2.2.2.1, fun sig hsig => ?_, va_Nw.use rfl hN⟩, hts _ l2, trivial⟩
      ⟨blind _ _ _, fun U hU hW => ⟨rfl, by rw [hU]; exact hS, KK.warm hW C.2.2.2.2.2.1⟩⟩ rfl (by rw [List.length_map]; exact hn) hl.1 hst (by show 2 * 0 + _ ≤ _; rw [wsum_eq]; omega) hd ⟨by omega, by omega⟩) hF hend
    have z := np
    unfold nPar at z
    rw [hsig] at z
    exact (Option.some.inj z).symm
theorem so_callI {x k' ci na a d c0 s0 kd0 : Nat} {vs rest : List AV} {S : Po} (hd : decode (mB k) pc = .ok (.invokespecial x, 3)) (hk : lok k x = true) (hq : alook mlkT (mC k * 1000 + x) = some (kd0, k', ci, na)) (hkd : kd0 = 1 ∨ kd0 = 4) (hn : vs.length = na) (hw : wsum rest ≤ 8) (hle : (lent0 (aR (some a) :: vs)).length ≤ mX k')
    (h1 : (mO k').1 ≤ c0) (h2 : (mO k').2 ≤ s0) (hS0 : WPs G (d, mO k') k' 0 (lent (aR (some a) :: vs) (mX k')) [] σ S) (hv : vback (WPs G) k lc Q (d + 1, c0 - (mO k').1, s0 - (mO k').2) (pc + 3) k' rest S) : WPs G (d + 1, c0, s0) k pc lc (vs.reverse ++ aR (some a) :: rest) σ Q := fun p e R s m args below meth c QQ C H locs cells slots ls hS hF hl hc hs => by
  have hlk := lkAll _ (alook_mem _ _ _ hq)
  obtain ⟨e1, e2, -⟩ := lok_d hk
  have hts := C.2.2.2.2.1
  have hR := C.2.2.2.2.2.2.1
  have hR2 := C.2.2.2.2.2.2.2.1
  dsimp only at hc hs hR hR2
  have hend : ∀ (ret : Option AV) (σ' : Sto) (H1 : Heap) (locs1 : List Loc), (∃ i, rtI k' i ret) → S ret σ' → Sim G σ' H1 → va_S (Fre G) s.heap H1 locs1 → W p (gA G) e R s m args below meth c H1 locs1 (cells + (mO k').1) (slots + (mO k').2) QQ (F0 m (pc + 3) ls ((ret.map (rho G)).toList ++ rest.map (rho G))) := by
    intro ret σ' H1 locs1 hi hSr hS1 hF1
    rw [← app_map]
    refine back_go hv hi hSr p e R s m args below meth c QQ C H1 locs1 _ _ ls hS1 hF1 hl ?_ ?_
    · dsimp only; omega
    · dsimp only; omega
  have hst : List.map (rho G) (vs.reverse ++ aR (some a) :: rest) = (vs.map (rho G)).reverse ++ .ref (ad G a) :: rest.map (rho G) := by
    rw [List.map_append, List.map_reverse]
    rfl
  rcases hkd with rfl | rfl
  · obtain ⟨hm, np, l1, l2, l3, l4⟩ := hlk
    rw [e1, e2] at l1
    have hM := met_of hm hle hS0
    have hX := hm.2.2.2.2.1
    have hcw := hm.2.1
    rw [l4] at hcw
    refine call_go (va_runI (As := vs.map (rho G)) (rest := rest.map (rho G)) (b := ad G a) (n := na) (bytes := mB k') (maxL := mX k') ⟨C.1, C.2.1, C.2.2.1, C.2.2.2.1, hts⟩ hM
      ⟨⟨rfl, rfl, hR, by show 8 + (mX k' + 11) + 64 * d ≤ _; omega, pay_in hts (good_wsk hm), by unfold wsk; rw [l4]; exact List.mem_cons_self, hts _ hcw, hts _ hm.2.2.1, hm.2.2.2.1, fun sig hsig => ?_, hts _ l1⟩, l3, hts _ l2⟩
      ⟨blind _ _ _, fun U hU hW => ⟨rfl, by rw [hU]; exact hS, KK.warm hW C.2.2.2.2.2.1⟩⟩ rfl (by rw [List.length_map]; exact hn) hl.1 hst (by show 2 * 0 + _ ≤ _; rw [wsum_eq]; omega) hd ⟨by omega, by omega⟩) hF hend
    have z := np
    unfold nPar at z
    rw [hsig] at z
    exact (Option.some.inj z).symm
  · obtain ⟨hm, np, l1, l2, l3, l4⟩ := hlk
    have hM := met_of hm hle hS0
    have hX := hm.2.2.2.2.1
    have hcw := hm.2.1
    rw [l4] at hcw
    have hN := C.2.2.2.2.2.1.2.2.2 _ l1
    rw [e1, e2] at hN
    refine call_go (va_runIN (As := vs.map (rho G)) (rest := rest.map (rho G)) (b := ad G a) (n := na) (host := "TracePost") (bytes := mB k') (maxL := mX k') ⟨C.1, C.2.1, C.2.2.1, C.2.2.2.1, hts⟩ hM
      ⟨⟨⟨rfl, rfl, hR, by show 8 + (mX k' + 11) + 64 * d ≤ _; omega, pay_in hts (good_wsk hm), by unfold wsk; rw [l4]; exact List.mem_cons_self⟩, hts _ hcw, hts _ hm.2.2.1, hm.2.2.2.1, fun sig hsig => ?_, va_Nw.use rfl hN⟩, l3, hts _ l2⟩
      ⟨blind _ _ _, fun U hU hW => ⟨rfl, by rw [hU]; exact hS, KK.warm hW C.2.2.2.2.2.1⟩⟩ rfl (by rw [List.length_map]; exact hn) hl.1 hst (by show 2 * 0 + _ ≤ _; rw [wsum_eq]; omega) hd ⟨by omega, by omega⟩) hF hend
    have z := np
    unfold nPar at z
    rw [hsig] at z
    exact (Option.some.inj z).symm
end
