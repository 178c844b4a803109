/-! reading a store behind writes -/
theorem gi_si_r (σ : Sto) (a k : Nat) (v : Int32) (b : Nat) : gi (si σ a k v) b = if b = a then up1 (gi σ a) k v else gi σ b := by
  by_cases h : b = a
  · subst h; rw [if_pos rfl, gi_si]
  · rw [if_neg h]; exact (same_si h).1
theorem gl_si_r (σ : Sto) (a k : Nat) (v : Int32) : gl (si σ a k v) = gl σ := rfl
theorem gr_si_r (σ : Sto) (a k : Nat) (v : Int32) : gr (si σ a k v) = gr σ := rfl
theorem sn_si_r (σ : Sto) (a k : Nat) (v : Int32) : sn (si σ a k v) = sn σ := rfl
theorem gl_sl_r (σ : Sto) (a k : Nat) (v : Int64) (b : Nat) : gl (sl σ a k v) b = if b = a then up1 (gl σ a) k v else gl σ b := by
  by_cases h : b = a
  · subst h; rw [if_pos rfl, gl_sl]
  · rw [if_neg h]; exact (same_sl h).2.1
theorem gi_sl_r (σ : Sto) (a k : Nat) (v : Int64) : gi (sl σ a k v) = gi σ := rfl
theorem gr_sl_r (σ : Sto) (a k : Nat) (v : Int64) : gr (sl σ a k v) = gr σ := rfl
theorem sn_sl_r (σ : Sto) (a k : Nat) (v : Int64) : sn (sl σ a k v) = sn σ := rfl
theorem gr_sr_r (σ : Sto) (a k : Nat) (v : Option Nat) (b : Nat) : gr (sr σ a k v) b = if b = a then up1 (gr σ a) k v else gr σ b := by
  by_cases h : b = a
  · subst h; rw [if_pos rfl, gr_sr]
  · rw [if_neg h]; exact (same_sr h).2.2
theorem gi_sr_r (σ : Sto) (a k : Nat) (v : Option Nat) : gi (sr σ a k v) = gi σ := rfl
theorem gl_sr_r (σ : Sto) (a k : Nat) (v : Option Nat) : gl (sr σ a k v) = gl σ := rfl
theorem sn_sr_r (σ : Sto) (a k : Nat) (v : Option Nat) : sn (sr σ a k v) = sn σ := rfl
theorem okO_si (σ : Sto) (a k : Nat) (v : Int32) (x c : Nat) : okO (si σ a k v) x c = okO σ x c := rfl
theorem okO_sl (σ : Sto) (a k : Nat) (v : Int64) (x c : Nat) : okO (sl σ a k v) x c = okO σ x c := rfl
theorem okO_sr (σ : Sto) (a k : Nat) (v : Option Nat) (x c : Nat) : okO (sr σ a k v) x c = okO σ x c := rfl
theorem okA_si (σ : Sto) (a k : Nat) (v : Int32) (x c : Nat) (i : Int32) : okA (si σ a k v) x c i = okA σ x c i := rfl
theorem okA_sl (σ : Sto) (a k : Nat) (v : Int64) (x c : Nat) (i : Int32) : okA (sl σ a k v) x c i = okA σ x c i := rfl
theorem okA_sr (σ : Sto) (a k : Nat) (v : Option Nat) (x c : Nat) (i : Int32) : okA (sr σ a k v) x c i = okA σ x c i := rfl
theorem up2_up2 {α : Type} (g : Nat → Nat → α) (a k : Nat) (v w : α) : up2 (up2 g a k v) a k w = up2 g a k w := by
  funext b j
  unfold up2 up1
  by_cases h : b = a
  · by_cases hj : j = k <;> simp [h, hj]
  · simp [h]
theorem up2_self {α : Type} (g : Nat → Nat → α) (a k : Nat) : up2 g a k (g a k) = g := by
  funext b j
  unfold up2 up1
  by_cases h : b = a
  · by_cases hj : j = k <;> simp [h, hj]
  · simp [h]
theorem si_si (σ : Sto) (a k : Nat) (v w : Int32) : si (si σ a k v) a k w = si σ a k w := by
  unfold si
  rw [up2_up2]
theorem si_self (σ : Sto) (a k : Nat) : si σ a k (gi σ a k) = σ := by
  unfold si gi
  rw [up2_self]
theorem okX_of {σ : Sto} {a : Nat} {i : Int32} (h : okA σ a 7 i) : okX σ a i := Or.inr ⟨fun e => by subst e; exact absurd h.2.1 (by decide), h⟩
theorem okA_n {σ : Sto} {a t n k : Nat} (h1 : a < sn σ) (h2 : kd a = (t, n)) (h3 : k < n) (h4 : n < 2 ^ 31) : okA σ a t (nI k) := ⟨h1, by rw [h2], by rw [h2]; exact vp_in_nI h3 h4⟩
theorem okX_n {σ : Sto} {a n k : Nat} (h1 : a < sn σ) (h2 : kd a = (7, n)) (h3 : k < n) (h4 : n < 2 ^ 31) : okX σ a (nI k) := okX_of (okA_n h1 h2 h3 h4)
/-! searching and counting by index -/
def fnd (p : Nat → Bool) : Nat → Nat → Option Nat
  | _, 0 => none
  | k, n + 1 => if p k then some k else fnd p (k + 1) n
def cnt (p : Nat → Bool) : Nat → Nat → Nat
  | _, 0 => 0
  | k, n + 1 => (if p k then 1 else 0) + cnt p (k + 1) n
def ofN (r : Option Nat) : Int32 := match r with
  | none => -1
  | some k => nI k
theorem z10 : ((1 : Int32) = 0) = False := eq_false (by decide)
theorem z00 : ((0 : Int32) = 0) = True := eq_true rfl
