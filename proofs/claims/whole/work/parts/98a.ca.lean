/-! the start: stores that are known whole -/
theorem upr_id {α : Type} (f : Nat → Nat → α) (m : Nat) (v : Nat → α) (h : f m = v) : upr f m v = f := by
  funext a
  unfold upr
  split
  · rename_i e; rw [e, h]
  · rfl
def Rep (σ : Sto) (m : Nat) (f : Nat → Nat → Int32) (g : Nat → Nat → Option Nat) : Prop := σ = (m, f, fun _ _ => 0, g)
section
variable {σ : Sto} {m : Nat} {f : Nat → Nat → Int32} {g : Nat → Nat → Option Nat}
theorem Rep.s (h : Rep σ m f g) : sn σ = m := by rw [h]; rfl
theorem Rep.nw (h : Rep σ m f g) (hf : f m = fun _ => 0) (hg : g m = fun _ => none) : Rep (alo σ) (m + 1) f g := by
  unfold Rep at h ⊢
  rw [h]
  show (m + 1, upr f m (fun _ => 0), upr (fun _ _ => (0 : Int64)) m (fun _ => 0), upr g m (fun _ => none)) = _
  rw [upr_id f m _ hf, upr_id g m _ hg, upr_id (fun _ _ => (0 : Int64)) m _ rfl]
theorem Rep.wi (h : Rep σ m f g) (a k : Nat) (v : Int32) : Rep (si σ a k v) m (up2 f a k v) g := by
  unfold Rep at h ⊢
  rw [h]
  rfl
theorem Rep.wr (h : Rep σ m f g) (a k : Nat) (v : Option Nat) : Rep (sr σ a k v) m f (up2 g a k v) := by
  unfold Rep at h ⊢
  rw [h]
  rfl
/-- blank from m on -/
def Bl (m : Nat) (f : Nat → Nat → Int32) (g : Nat → Nat → Option Nat) : Prop := ∀ a, m ≤ a → f a = (fun _ => 0) ∧ g a = (fun _ => none)
theorem Bl.i (h : Bl m f g) {a k : Nat} {v : Int32} (ha : a < m) : Bl m (up2 f a k v) g := fun b hb => by
  refine ⟨?_, (h b hb).2⟩
  unfold up2
  rw [if_neg (by omega)]
  exact (h b hb).1
theorem Bl.r (h : Bl m f g) {a k : Nat} {v : Option Nat} (ha : a < m) : Bl m f (up2 g a k v) := fun b hb => by
  refine ⟨(h b hb).1, ?_⟩
  unfold up2
  rw [if_neg (by omega)]
  exact (h b hb).2
theorem Bl.s (h : Bl m f g) : Bl (m + 1) f g := fun b hb => h b (by omega)
theorem Rep.al (h : Rep σ m f g) (hb : Bl m f g) : Rep (alo σ) (m + 1) f g := h.nw (hb m (Nat.le_refl _)).1 (hb m (Nat.le_refl _)).2
end
