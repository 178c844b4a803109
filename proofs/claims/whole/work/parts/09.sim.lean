/-! the store and the heap; what holds where a method's body is walked -/
abbrev GG : Type := Launch × va_G × (Nat → ClassId) × Nat × Nat × Cell × Nat
def gA (G : GG) : Launch := G.1
def gD (G : GG) : va_G := G.2.1
def gC (G : GG) : Nat → ClassId := G.2.2.1
def gb (G : GG) : Nat := G.2.2.2.1
def gB (G : GG) : Nat := G.2.2.2.2.1
def gS (G : GG) : Cell := G.2.2.2.2.2.1
def gN (G : GG) : Nat := G.2.2.2.2.2.2
def ad (G : GG) (a : Nat) : Nat := match a with
  | 0 => gb G
  | a + 1 => gB G + a
def rvo (G : GG) (r : Option Nat) : Value := va_rf (r.map (ad G))
def rho (G : GG) (v : AV) : Value := match v with
  | .inl x => .int x
  | .inr (.inl x) => .long x
  | .inr (.inr (.inl r)) => rvo G r
  | .inr (.inr (.inr _)) => .null
def fvl (G : GG) (σ : Sto) (t : FieldType) (a j : Nat) : Value := match fk t with
  | 0 => .int (gi σ a j)
  | 1 => .int (gi σ a j)
  | 2 => .long (gl σ a j)
  | _ => rvo G (gr σ a j)
def avl (G : GG) (σ : Sto) (t a j : Nat) : Value := match t with
  | 8 => .long (gl σ a j)
  | 10 => rvo G (gr σ a j)
  | _ => .int (gi σ a j)
def celK (G : GG) (σ : Sto) (a : Nat) (H : Heap) : Prop :=
  if (kd a).1 < 7 then t_OB (ad G a) ((gD G).1 (kd a).1) (NN (kd a).1) ((gD G).2 (kd a).1) H (fun j => fvl G σ (YY (kd a).1 j) a j)
  else H[ad G a]? = some (arrV (gC G (kd a).1) (kd a).2 (avl G σ (kd a).1 a))
def Sim (G : GG) (σ : Sto) (H : Heap) : Prop :=
  1 ≤ sn σ ∧ H.size + 1 = gB G + sn σ ∧ gb G < gB G ∧ H[gb G]? = some (gS G) ∧ (gS G).vm ≠ .unknown ∧ (gS G).slots.size = gN G ∧ gr σ 0 0 = some (gN G) ∧
  (∀ j, j < gN G → (gS G).slots[j]? = some (.int (gi σ 0 j))) ∧ ∀ a, 1 ≤ a → a < sn σ → celK G σ a H
def sameAt (σ σ' : Sto) (b : Nat) : Prop := gi σ' b = gi σ b ∧ gl σ' b = gl σ b ∧ gr σ' b = gr σ b
theorem ad_ne {G : GG} {a b : Nat} (hb : gb G < gB G) (h : a ≠ b) : ad G a ≠ ad G b := by
  unfold ad
  cases a <;> cases b <;> simp only [] <;> omega
theorem ad_inj {G : GG} {a b : Nat} (hb : gb G < gB G) (h : ad G a = ad G b) : a = b := by
  by_cases e : a = b
  · exact e
  · exact absurd h (ad_ne hb e)
theorem celK.kept {G : GG} {σ σ' : Sto} {b : Nat} {H H' : Heap} (h : celK G σ b H) (hs : sameAt σ σ' b) (hH : H'[ad G b]? = H[ad G b]?) : celK G σ' b H' := by
  obtain ⟨h1, h2, h3⟩ := hs
  have ef : ∀ (t : FieldType) (j : Nat), fvl G σ t b j = fvl G σ' t b j := fun t j => by unfold fvl; rw [h1, h2, h3]
  have ea : ∀ t : Nat, avl G σ t b = avl G σ' t b := fun t => by funext j; unfold avl; rw [h1, h2, h3]
  unfold celK at h ⊢
  by_cases hk : (kd b).1 < 7
  · rw [if_pos hk] at h ⊢
    exact (h.kept hH).to (fun j _ => ef _ j)
  · rw [if_neg hk] at h ⊢
    rw [hH, h, ea]
theorem Sim.upd {G : GG} {σ σ' : Sto} {H H' : Heap} {a : Nat} (h : Sim G σ H) (hn : sn σ' = sn σ) (ha : 1 ≤ a) (h0 : ∀ b, b ≠ a → sameAt σ σ' b) (hz : H'.size = H.size) (ho : ∀ q, q ≠ ad G a → H'[q]? = H[q]?) (hc : celK G σ' a H') : Sim G σ' H' := by
  obtain ⟨q1, q2, q3, q4, q5, q6, q7, q8, q9⟩ := h
  have s0 := h0 0 (by omega)
  refine ⟨by rw [hn]; exact q1, by rw [hn, hz]; exact q2, q3, ?_, q5, q6, by rw [s0.2.2]; exact q7, fun j hj => by rw [s0.1]; exact q8 j hj, fun b b1 b2 => ?_⟩
  · rw [ho (gb G) (fun e => ad_ne (a := 0) (b := a) q3 (by omega) e)]
    exact q4
  · by_cases e : b = a
    · rw [e]; exact hc
    · exact (q9 b b1 (by rw [← hn]; exact b2)).kept (h0 b e) (ho _ (ad_ne q3 e))
theorem same_si {σ : Sto} {a k : Nat} {v : Int32} {b : Nat} (h : b ≠ a) : sameAt σ (si σ a k v) b := ⟨by show up2 σ.2.1 a k v b = _; unfold up2; rw [if_neg h]; rfl, rfl, rfl⟩
theorem same_sl {σ : Sto} {a k : Nat} {v : Int64} {b : Nat} (h : b ≠ a) : sameAt σ (sl σ a k v) b := ⟨rfl, by show up2 σ.2.2.1 a k v b = _; unfold up2; rw [if_neg h]; rfl, rfl⟩
theorem same_sr {σ : Sto} {a k : Nat} {v : Option Nat} {b : Nat} (h : b ≠ a) : sameAt σ (sr σ a k v) b := ⟨rfl, rfl, by show up2 σ.2.2.2 a k v b = _; unfold up2; rw [if_neg h]; rfl⟩
theorem same_slr {σ : Sto} {a : Nat} {f : Nat → Int64} {b : Nat} (h : b ≠ a) : sameAt σ (slr σ a f) b := ⟨rfl, by show upr σ.2.2.1 a f b = _; unfold upr; rw [if_neg h]; rfl, rfl⟩
theorem same_alo {σ : Sto} {b : Nat} (h : b ≠ sn σ) : sameAt σ (alo σ) b := by
  have h' : b ≠ σ.1 := h
  refine ⟨?_, ?_, ?_⟩
  · show upr σ.2.1 σ.1 _ b = _; unfold upr; rw [if_neg h']; rfl
  · show upr σ.2.2.1 σ.1 _ b = _; unfold upr; rw [if_neg h']; rfl
  · show upr σ.2.2.2 σ.1 _ b = _; unfold upr; rw [if_neg h']; rfl
theorem gi_si (σ : Sto) (a k : Nat) (v : Int32) : gi (si σ a k v) a = up1 (gi σ a) k v := by show up2 σ.2.1 a k v a = _; unfold up2; rw [if_pos rfl]; rfl
theorem gl_sl (σ : Sto) (a k : Nat) (v : Int64) : gl (sl σ a k v) a = up1 (gl σ a) k v := by show up2 σ.2.2.1 a k v a = _; unfold up2; rw [if_pos rfl]; rfl
theorem gr_sr (σ : Sto) (a k : Nat) (v : Option Nat) : gr (sr σ a k v) a = up1 (gr σ a) k v := by show up2 σ.2.2.2 a k v a = _; unfold up2; rw [if_pos rfl]; rfl
theorem gl_slr (σ : Sto) (a : Nat) (f : Nat → Int64) : gl (slr σ a f) a = f := by show upr σ.2.2.1 a f a = _; unfold upr; rw [if_pos rfl]
/-- the new cell -/
theorem Sim.new {G : GG} {σ : Sto} {H H' : Heap} (h : Sim G σ H) (hz : H'.size = H.size + 1) (ho : ∀ q, q < H.size → H'[q]? = H[q]?) (hc : celK G (alo σ) (sn σ) H') : Sim G (alo σ) H' := by
  obtain ⟨q1, q2, q3, q4, q5, q6, q7, q8, q9⟩ := h
  have s0 := same_alo (σ := σ) (b := 0) (by omega)
  have e1 : sn (alo σ) = sn σ + 1 := rfl
  refine ⟨by rw [e1]; omega, by rw [e1]; omega, q3, by rw [ho _ (by omega)]; exact q4, q5, q6, by rw [s0.2.2]; exact q7, fun j hj => by rw [s0.1]; exact q8 j hj, fun b b1 b2 => ?_⟩
  rw [e1] at b2
  by_cases e : b = sn σ
  · rw [e]; exact hc
  · refine (q9 b b1 (by omega)).kept (same_alo e) (ho _ ?_)
    cases b with
    | zero => omega
    | succ b => show gB G + b < _; omega
theorem rho_cat (G : GG) (v : AV) : (rho G v).category = cat2 v := by
  rcases v with x | x | (_ | x) | x <;> rfl
theorem wsum_eq (G : GG) (st : List AV) : ((st.map (rho G)).map fun v => v.category).sum = wsum st := by
  unfold wsum
  rw [List.map_map]
  congr 1
  apply List.map_congr_left
  intro v _
  exact rho_cat G v
/-! rows of variables -/
def lvo (G : GG) (ls : Array Slot) (n : Nat) (lc : List AV) : Prop := ls.size = n ∧ lv_wf ls ∧ ∀ (i : Nat) (v : AV), lc[i]? = some v → v ≠ aU → ls[i]? = some (.val (rho G v))
def lcl (G : GG) (lc : List AV) : List (Nat × Value) := (List.range lc.length).filterMap (fun i => (lc[i]?).bind (fun v => if v = aU then none else some (i, rho G v)))
theorem lcl_mem {G : GG} {lc : List AV} {i : Nat} {v : AV} (h : lc[i]? = some v) (hu : v ≠ aU) : (i, rho G v) ∈ lcl G lc := by
  refine List.mem_filterMap.mpr ⟨i, List.mem_range.mpr (List.getElem?_eq_some_iff.mp h).1, ?_⟩
  rw [h, Option.bind_some, if_neg hu]
theorem lcl_of {G : GG} {lc : List AV} {q : Nat × Value} (h : q ∈ lcl G lc) : ∃ v, lc[q.1]? = some v ∧ v ≠ aU ∧ q.2 = rho G v := by
  obtain ⟨i, -, hi⟩ := List.mem_filterMap.mp h
  cases hv : lc[i]? with
  | none => rw [hv] at hi; cases hi
  | some v =>
    rw [hv, Option.bind_some] at hi
    by_cases hu : v = aU
    · rw [if_pos hu] at hi; cases hi
    · rw [if_neg hu] at hi
      cases hi
      exact ⟨v, hv, hu, rfl⟩
theorem lvo.has {G : GG} {ls : Array Slot} {n : Nat} {lc : List AV} (h : lvo G ls n lc) : lv_has ls n (lcl G lc) := by
  refine ⟨h.1, h.2.1, fun q hq => ?_⟩
  obtain ⟨v, h1, h2, h3⟩ := lcl_of hq
  rw [h3]
  exact h.2.2 _ v h1 h2
theorem inv1_get {lc : List AV} {i j : Nat} {w : AV} (h : (inv1 lc i)[j]? = some w) (hw : w ≠ aU) : lc[j]? = some w ∧ ¬ (j + 1 = i ∧ cat2 w = 2) := by
  unfold inv1 at h
  split at h
  · rename_i x hx
    by_cases e : j = i - 1
    · subst e
      rw [List.getElem?_set_self (List.getElem?_eq_some_iff.mp hx).1] at h
      exact absurd (Option.some.inj h).symm hw
    · rw [List.getElem?_set_ne (Ne.symm e)] at h
      exact ⟨h, fun q => e (by omega)⟩
  · rename_i hx
    refine ⟨h, fun q => ?_⟩
    have e : j = i - 1 := by omega
    rcases w with x | x | x | x
    · exact absurd q.2 (by simp [cat2])
    · exact hx x (by rw [← e]; exact h)
    · exact absurd q.2 (by simp [cat2])
    · exact absurd q.2 (by simp [cat2])
theorem lvo_st1 {G : GG} {ls' : Array Slot} {n i : Nat} {v : AV} {lc : List AV} (h : lv_has ls' n ((i, rho G v) :: (lcl G lc).filter (fun q => !(q.1 == i) && !(q.1 + 1 == i && q.2.category == 2)))) : lvo G ls' n (ls1 lc i v) := by
  refine ⟨h.1, h.2.1, fun j w hj hw => ?_⟩
  unfold ls1 at hj
  by_cases e : j = i
  · subst e
    by_cases hl : j < (inv1 lc j).length
    · rw [List.getElem?_set_self hl] at hj
      cases hj
      exact h.2.2 (j, rho G v) List.mem_cons_self
    · rw [List.getElem?_eq_none (by rw [List.length_set]; omega)] at hj
      cases hj
  · rw [List.getElem?_set_ne (Ne.symm e)] at hj
    obtain ⟨h1, h2⟩ := inv1_get hj hw
    refine h.2.2 (j, rho G w) (List.mem_cons_of_mem _ (List.mem_filter.mpr ⟨lcl_mem h1 hw, ?_⟩))
    simp only [Bool.and_eq_true, Bool.not_eq_true', beq_eq_false_iff_ne, ne_eq, Bool.and_eq_false_iff, rho_cat]
    refine ⟨e, ?_⟩
    by_cases z : j + 1 = i
    · exact Or.inr (fun q => h2 ⟨z, q⟩)
    · exact Or.inl z
theorem lvo_st2 {G : GG} {ls' : Array Slot} {n i : Nat} {v : AV} {lc : List AV} (h : lv_has ls' n ((i, rho G v) :: (lcl G lc).filter (fun q => !(q.1 == i) && (!(q.1 == i + 1) && !(q.1 + 1 == i && q.2.category == 2))))) : lvo G ls' n (ls2 lc i v) := by
  refine ⟨h.1, h.2.1, fun j w hj hw => ?_⟩
  unfold ls2 at hj
  by_cases e1 : j = i + 1
  · subst e1
    by_cases hl : i + 1 < ((inv1 lc i).set i v).length
    · rw [List.getElem?_set_self hl] at hj
      exact absurd (Option.some.inj hj).symm hw
    · rw [List.getElem?_eq_none (by rw [List.length_set]; omega)] at hj
      cases hj
  rw [List.getElem?_set_ne (Ne.symm e1)] at hj
  by_cases e : j = i
  · subst e
    by_cases hl : j < (inv1 lc j).length
    · rw [List.getElem?_set_self hl] at hj
      cases hj
      exact h.2.2 (j, rho G v) List.mem_cons_self
    · rw [List.getElem?_eq_none (by rw [List.length_set]; omega)] at hj
      cases hj
  · rw [List.getElem?_set_ne (Ne.symm e)] at hj
    obtain ⟨h1, h2⟩ := inv1_get hj hw
    refine h.2.2 (j, rho G w) (List.mem_cons_of_mem _ (List.mem_filter.mpr ⟨lcl_mem h1 hw, ?_⟩))
    simp only [Bool.and_eq_true, Bool.not_eq_true', beq_eq_false_iff_ne, ne_eq, Bool.and_eq_false_iff, rho_cat]
    refine ⟨e, e1, ?_⟩
    by_cases z : j + 1 = i
    · exact Or.inr (fun q => h2 ⟨z, q⟩)
    · exact Or.inl z
/-! what is known of the tables in a state -/
def KK (G : GG) (U : State) : Prop := va_K (gD G) vwCl [(gC G 7, .int), (gC G 8, .long), (gC G 9, .boolean), (gC G 10, .object "TracePost$Trace")] U ∧ U.isArrayOf (gS G) .int ∧ va_AO "TracePost$Trace" U ∧ ∀ w ∈ nestT, va_Nw w U
theorem nest_form : ∀ w ∈ nestT, ∃ (a : String) (i : Nat) (x : MethodName) (h : String), w = .methodLinkNest a i x h := by
  intro w hw
  simp only [nestT, List.mem_cons, List.not_mem_nil, or_false] at hw
  rcases hw with rfl | rfl | rfl | rfl | rfl | rfl <;> exact ⟨_, _, _, _, rfl⟩
theorem KK.warm {G : GG} {s U : State} (hW : s.WarmedH U.vm) (h : KK G s) : KK G U :=
  ⟨va_K.moved hW.alike h.1, State.isArrayOf_alike hW.alike h.2.1, va_AO.moved hW.alike h.2.2.1, fun w hw => by
    obtain ⟨a, i, x, z, rfl⟩ := nest_form w hw
    exact va_Nw.warmM hW (h.2.2.2 _ hw)⟩
theorem KK.same {G : GG} {s U : State} (hv : s.vm = U.vm) (h : KK G s) : KK G U :=
  ⟨va_K.moved (by rw [hv]; exact Vm.Alike.refl _) h.1, State.isArrayOf_alike (by rw [hv]; exact Vm.Alike.refl _) h.2.1, va_AO.moved (by rw [hv]; exact Vm.Alike.refl _) h.2.2.1, fun w hw => by
    obtain ⟨a, i, x, z, rfl⟩ := nest_form w hw
    exact va_Nw.same rfl hv (h.2.2.2 _ hw)⟩
def rtI (k : Nat) (i : Instr) (r : Option AV) : Prop := match i, mK k, r with
  | .return_, 0, none => True
  | .ireturn, 1, some (.inl _) => True
  | .ireturn, 4, some (.inl x) => x = 0 ∨ x = 1
  | .lreturn, 2, some (.inr (.inl _)) => True
  | .areturn, 3, some (.inr (.inr (.inl _))) => True
  | _, _, _ => False
def Fre (G : GG) : Nat → Prop := fun q => gB G ≤ q
/-- what holds all through a method's body -/
def Cx (G : GG) (d k : Nat) (p : Program) (e : Env) (R : Room) (s : State) (m : MethodId) (args : Array Value) (below : List Frame) (meth : Method) (c : Code) (QQ : State → Prop) (Q : Po) : Prop :=
  p.tables.exec = Jvm.exec ∧ c.code = mB k ∧ c.maxLocals = mX k ∧ s.vm.findClass (mY k).cls = some m.cls ∧ (∀ w ∈ Tg, w.before args s = true) ∧ KK G s ∧ d ≤ R.frames ∧ 64 * d ≤ R.locals ∧ (isIn k = true → meth.name = "<init>") ∧
  ∀ (r : Option AV) (σ' : Sto) (pc : Nat) (H : Heap) (locs : List Loc) (cells slots : Nat) (ls : Array Slot) (i : Instr), rtI k i r → Q r σ' → decode (mB k) pc = .ok (i, 1) → Sim G σ' H → va_S (Fre G) s.heap H locs → cells ≤ R.cells → slots ≤ R.slots →
    W p (gA G) e R s m args below meth c H locs cells slots QQ (F0 m pc ls (r.toList.map (rho G)))
def WPs (G : GG) : EvT := fun b k pc lc st σ Q =>
  ∀ (p : Program) (e : Env) (R : Room) (s : State) (m : MethodId) (args : Array Value) (below : List Frame) (meth : Method) (c : Code) (QQ : State → Prop), Cx G b.1 k p e R s m args below meth c QQ Q →
  ∀ (H : Heap) (locs : List Loc) (cells slots : Nat) (ls : Array Slot), Sim G σ H → va_S (Fre G) s.heap H locs → lvo G ls (mX k) lc → cells + b.2.1 ≤ R.cells → slots + b.2.2 ≤ R.slots →
    W p (gA G) e R s m args below meth c H locs cells slots QQ (F0 m pc ls (st.map (rho G)))
