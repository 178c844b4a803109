/-! an abstract machine over numbered cells: values, the store, one instruction as a predicate, and the least predicate that these give -/
abbrev AV : Type := Int32 ⊕ Int64 ⊕ Option Nat ⊕ Unit
def aI (x : Int32) : AV := .inl x
def aL (x : Int64) : AV := .inr (.inl x)
def aR (r : Option Nat) : AV := .inr (.inr (.inl r))
def aU : AV := .inr (.inr (.inr ()))
/-- how many cells, their ints, longs, references -/
abbrev Sto : Type := Nat × (Nat → Nat → Int32) × (Nat → Nat → Int64) × (Nat → Nat → Option Nat)
def sn (σ : Sto) : Nat := σ.1
def gi (σ : Sto) : Nat → Nat → Int32 := σ.2.1
def gl (σ : Sto) : Nat → Nat → Int64 := σ.2.2.1
def gr (σ : Sto) : Nat → Nat → Option Nat := σ.2.2.2
def up1 {α : Type} (f : Nat → α) (k : Nat) (v : α) : Nat → α := fun j => if j = k then v else f j
def up2 {α : Type} (g : Nat → Nat → α) (a k : Nat) (v : α) : Nat → Nat → α := fun b => if b = a then up1 (g a) k v else g b
def upr {α : Type} (g : Nat → Nat → α) (a : Nat) (f : Nat → α) : Nat → Nat → α := fun b => if b = a then f else g b
def si (σ : Sto) (a k : Nat) (v : Int32) : Sto := (σ.1, up2 σ.2.1 a k v, σ.2.2.1, σ.2.2.2)
def sl (σ : Sto) (a k : Nat) (v : Int64) : Sto := (σ.1, σ.2.1, up2 σ.2.2.1 a k v, σ.2.2.2)
def sr (σ : Sto) (a k : Nat) (v : Option Nat) : Sto := (σ.1, σ.2.1, σ.2.2.1, up2 σ.2.2.2 a k v)
def slr (σ : Sto) (a : Nat) (f : Nat → Int64) : Sto := (σ.1, σ.2.1, upr σ.2.2.1 a f, σ.2.2.2)
def alo (σ : Sto) : Sto := (σ.1 + 1, upr σ.2.1 σ.1 (fun _ => 0), upr σ.2.2.1 σ.1 (fun _ => 0), upr σ.2.2.2 σ.1 (fun _ => none))
/-- how long the script is: kept beside its cell 0 -/
def scL (σ : Sto) : Nat := (gr σ 0 0).getD 0
def okO (σ : Sto) (a ci : Nat) : Prop := a < sn σ ∧ (kd a).1 = ci
def okA (σ : Sto) (a t : Nat) (i : Int32) : Prop := a < sn σ ∧ (kd a).1 = t ∧ vp_in i (kd a).2
def okS (σ : Sto) (i : Int32) : Prop := vp_in i (scL σ)
def okX (σ : Sto) (a : Nat) (i : Int32) : Prop := (a = 0 ∧ okS σ i) ∨ (¬ a = 0 ∧ okA σ a 7 i)
def okL (σ : Sto) (a : Nat) : Prop := a = 0 ∨ (¬ a = 0 ∧ a < sn σ ∧ 7 ≤ (kd a).1 ∧ (kd a).1 ≤ 10)
def aln (σ : Sto) (a : Nat) : Nat := if a = 0 then scL σ else (kd a).2
abbrev B3 : Type := Nat × Nat × Nat
abbrev Po : Type := Option AV → Sto → Prop
abbrev EvT : Type := B3 → Nat → Nat → List AV → List AV → Sto → Po → Prop
def gd (c : Bool) (X : Prop) : Prop := match c with
  | true => X
  | false => False
theorem gd_t {c : Bool} {X : Prop} (h : gd c X) : c = true ∧ X := by
  cases c with
  | true => exact ⟨rfl, h⟩
  | false => exact h.elim
theorem gd_m {c : Bool} {X Y : Prop} (f : X → Y) (h : gd c X) : gd c Y := by
  cases c with
  | true => exact f h
  | false => exact h
/-! taking from the stack and the rows of variables -/
def ldi (lc : List AV) (i : Nat) (K : Int32 → Prop) : Prop := match lc[i]? with
  | some (.inl x) => K x
  | _ => False
def ldl (lc : List AV) (i : Nat) (K : Int64 → Prop) : Prop := match lc[i]? with
  | some (.inr (.inl x)) => K x
  | _ => False
def lda (lc : List AV) (i : Nat) (K : Option Nat → Prop) : Prop := match lc[i]? with
  | some (.inr (.inr (.inl x))) => K x
  | _ => False
def p1i (st : List AV) (K : Int32 → List AV → Prop) : Prop := match st with
  | .inl x :: r => K x r
  | _ => False
def p1l (st : List AV) (K : Int64 → List AV → Prop) : Prop := match st with
  | .inr (.inl x) :: r => K x r
  | _ => False
def p1r (st : List AV) (K : Option Nat → List AV → Prop) : Prop := match st with
  | .inr (.inr (.inl x)) :: r => K x r
  | _ => False
/-- a reference that isn't null -/
def p1o (st : List AV) (K : Nat → List AV → Prop) : Prop := match st with
  | .inr (.inr (.inl (some x))) :: r => K x r
  | _ => False
def inv1 (lc : List AV) (i : Nat) : List AV := match lc[i - 1]? with
  | some (.inr (.inl _)) => lc.set (i - 1) aU
  | _ => lc
def ls1 (lc : List AV) (i : Nat) (v : AV) : List AV := (inv1 lc i).set i v
def ls2 (lc : List AV) (i : Nat) (v : AV) : List AV := ((inv1 lc i).set i v).set (i + 1) aU
def cat2 (v : AV) : Nat := match v with
  | .inr (.inl _) => 2
  | _ => 1
def jmp (pc : Nat) (off : Int) (K : Nat → Prop) : Prop := match (pc : Int) + off with
  | .ofNat t => K t
  | .negSucc _ => False
def ifc (c : Jvm.ClassFile.Cond) (x : Int32) : Prop := match c with
  | .eq => x = 0
  | .ne => ¬ x = 0
  | .lt => x < 0
  | .ge => 0 ≤ x
  | .gt => 0 < x
  | .le => x ≤ 0
def ifn (c : Jvm.ClassFile.Cond) (x : Int32) : Prop := match c with
  | .eq => ¬ x = 0
  | .ne => x = 0
  | .lt => ¬ x < 0
  | .ge => ¬ 0 ≤ x
  | .gt => ¬ 0 < x
  | .le => ¬ x ≤ 0
def icc (c : Jvm.ClassFile.Cond) (x y : Int32) : Prop := match c with
  | .eq => x = y
  | .ne => ¬ x = y
  | .lt => x < y
  | .ge => y ≤ x
  | .gt => y < x
  | .le => x ≤ y
def icn (c : Jvm.ClassFile.Cond) (x y : Int32) : Prop := match c with
  | .eq => ¬ x = y
  | .ne => x = y
  | .lt => ¬ x < y
  | .ge => ¬ y ≤ x
  | .gt => ¬ y < x
  | .le => ¬ x ≤ y
def acc (c : Jvm.ClassFile.ACond) (x y : Option Nat) : Prop := match c with
  | .eq => x = y
  | .ne => ¬ x = y
def acn (c : Jvm.ClassFile.ACond) (x y : Option Nat) : Prop := match c with
  | .eq => ¬ x = y
  | .ne => x = y
def swt (d lo hi : Int) (offs : Array Int) (x : Int32) : Int := if x.toInt < lo ∨ hi < x.toInt then d else offs.toList.getD (x.toInt - lo).toNat d
/-- n values off the stack, the deepest first -/
def pops : Nat → List AV → List AV → Option (List AV × List AV)
  | 0, st, acc => some (acc, st)
  | n + 1, v :: st, acc => pops n st (v :: acc)
  | _ + 1, [], _ => none
def lent0 : List AV → List AV
  | [] => []
  | .inr (.inl x) :: t => .inr (.inl x) :: aU :: lent0 t
  | v :: t => v :: lent0 t
def lent (vs : List AV) (n : Nat) : List AV := lent0 vs ++ List.replicate (n - (lent0 vs).length) aU
def wsum (st : List AV) : Nat := (st.map cat2).sum
def isIn (k : Nat) : Bool := decide ((mY k).name = "<init>")
def lok (k x : Nat) : Bool := x.blt 1000 && (mC k).blt 8
section
variable (P : EvT) (b : B3) (k pc : Nat) (lc st : List AV) (σ : Sto) (Q : Po)
/-- the answer comes back, by its kind -/
def vback (b' : B3) (pc' k' : Nat) (rest : List AV) (S : Po) : Prop := match mK k' with
  | 0 => ∀ σ', S none σ' → P b' k pc' lc rest σ' Q
  | 2 => ∀ x σ', S (some (aL x)) σ' → P b' k pc' lc (aL x :: rest) σ' Q
  | 3 => ∀ r σ', S (some (aR r)) σ' → P b' k pc' lc (aR r :: rest) σ' Q
  | _ => ∀ x σ', S (some (aI x)) σ' → P b' k pc' lc (aI x :: rest) σ' Q
def vdo (k' : Nat) (vs rest : List AV) : Prop := match b with
  | (0, _, _) => False
  | (d + 1, c, s) => gd ((wsum rest).ble 8 && (lent0 vs).length.ble (mX k')) ((mO k').1 ≤ c ∧ (mO k').2 ≤ s ∧ ∃ S : Po, P (d, mO k') k' 0 (lent vs (mX k')) [] σ S ∧ vback P k lc Q (d + 1, c - (mO k').1, s - (mO k').2) (pc + 3) k' rest S)
def vinv (kd0 : Nat) (q : Option (Nat × Nat × Nat × Nat)) : Prop := match q with
  | some (0, k', ci, na) => gd (kd0.beq 0) (match pops na st [] with
    | some (vs, .inr (.inr (.inl (some a))) :: rest) => okO σ a ci ∧ vdo P b k pc lc σ Q k' (aR (some a) :: vs) rest
    | _ => False)
  | some (1, k', _, na) => gd (kd0.beq 1) (match pops na st [] with
    | some (vs, .inr (.inr (.inl (some a))) :: rest) => vdo P b k pc lc σ Q k' (aR (some a) :: vs) rest
    | _ => False)
  | some (4, k', _, na) => gd (kd0.beq 1) (match pops na st [] with
    | some (vs, .inr (.inr (.inl (some a))) :: rest) => vdo P b k pc lc σ Q k' (aR (some a) :: vs) rest
    | _ => False)
  | some (2, k', _, na) => gd (kd0.beq 2) (match pops na st [] with
    | some (vs, rest) => vdo P b k pc lc σ Q k' vs rest
    | none => False)
  | some (5, k', _, na) => gd (kd0.beq 2) (match pops na st [] with
    | some (vs, rest) => vdo P b k pc lc σ Q k' vs rest
    | none => False)
  | some (6, _, _, _) => gd (kd0.beq 1) (match b with
    | (0, _, _) => False
    | (_ + 1, _, _) => p1o st fun _ r => gd ((wsum r).ble 8) (P b k (pc + 3) lc r σ Q))
  | some (7, _, _, _) => gd (kd0.beq 2) (match b with
    | (0, _, _) => False
    | (_ + 1, _, _) => p1i st fun n r1 => p1i r1 fun dp r2 => p1o r2 fun a r3 => p1i r3 fun sp r4 => p1o r4 fun a0 r5 => gd ((wsum r5).ble 8) (
      (a < sn σ ∧ (kd a).1 = 8) ∧ (a0 < sn σ ∧ (kd a0).1 = 8) ∧ ¬ sp < 0 ∧ ¬ dp < 0 ∧ ¬ n < 0 ∧ sp.toNatClampNeg + n.toNatClampNeg ≤ (kd a0).2 ∧ dp.toNatClampNeg + n.toNatClampNeg ≤ (kd a).2 ∧
      P b k (pc + 3) lc r5 (slr σ a (va_cpy (gl σ a0) (gl σ a) sp.toNatClampNeg dp.toNatClampNeg n.toNatClampNeg)) Q))
  | some (8, _, _, _) => gd (kd0.beq 2) (match b with
    | (0, _, _) => False
    | (_ + 1, _, _) => p1l st fun y r1 => p1l r1 fun x r => gd ((wsum r).ble 8) (P b k (pc + 3) lc (aL (if y < x then x else y) :: r) σ Q))
  | some (9, _, _, _) => gd (kd0.beq 2) (match b with
    | (0, _, _) => False
    | (_ + 1, _, _) => p1l st fun y r1 => p1l r1 fun x r => gd ((wsum r).ble 8) (P b k (pc + 3) lc (aL (if y < x then y else x) :: r) σ Q))
  | _ => False
def vget (q : Option (Nat × Nat × Nat × Nat)) : Prop := match q with
  | some (ci, j, 0, _) => p1o st fun a r => okO σ a ci ∧ P b k (pc + 3) lc (aI (gi σ a j) :: r) σ Q
  | some (ci, j, 1, _) => p1o st fun a r => okO σ a ci ∧ P b k (pc + 3) lc (aI (gi σ a j) :: r) σ Q
  | some (ci, j, 2, _) => p1o st fun a r => okO σ a ci ∧ P b k (pc + 3) lc (aL (gl σ a j) :: r) σ Q
  | some (ci, j, 3, _) => p1o st fun a r => okO σ a ci ∧ P b k (pc + 3) lc (aR (gr σ a j) :: r) σ Q
  | _ => False
def vput (q : Option (Nat × Nat × Nat × Nat)) : Prop := match q with
  | some (ci, j, 0, f) => gd (f.beq 0 || (isIn k && (mC k).beq ci)) (p1i st fun x r1 => p1o r1 fun a r => okO σ a ci ∧ P b k (pc + 3) lc r (si σ a j x) Q)
  | some (ci, j, 1, f) => gd (f.beq 0 || (isIn k && (mC k).beq ci)) (p1i st fun x r1 => p1o r1 fun a r => okO σ a ci ∧ (x = 0 ∨ x = 1) ∧ P b k (pc + 3) lc r (si σ a j x) Q)
  | some (ci, j, 2, f) => gd (f.beq 0 || (isIn k && (mC k).beq ci)) (p1l st fun x r1 => p1o r1 fun a r => okO σ a ci ∧ P b k (pc + 3) lc r (sl σ a j x) Q)
  | some (ci, j, 3, f) => gd (f.beq 0 || (isIn k && (mC k).beq ci)) (p1r st fun x r1 => p1o r1 fun a r => okO σ a ci ∧ P b k (pc + 3) lc r (sr σ a j x) Q)
  | _ => False
/-- what an answer must be, by its kind -/
def vret (kk : Nat) (i : Instr) : Prop := match i, kk with
  | .return_, 0 => match st with
    | [] => Q none σ
    | _ => False
  | .ireturn, 1 => match st with
    | [.inl x] => Q (some (aI x)) σ
    | _ => False
  | .ireturn, 4 => match st with
    | [.inl x] => (x = 0 ∨ x = 1) ∧ Q (some (aI x)) σ
    | _ => False
  | .lreturn, 2 => match st with
    | [.inr (.inl x)] => Q (some (aL x)) σ
    | _ => False
  | .areturn, 3 => match st with
    | [.inr (.inr (.inl x))] => Q (some (aR x)) σ
    | _ => False
  | _, _ => False
def vnew (n : Nat) (q : Option Nat) : Prop := match q with
  | some ci => match b with
    | (d, c, s) => sn σ = n ∧ 1 ≤ c ∧ (kd n).2 ≤ s ∧ (kd n).1 = ci ∧ P (d, c - 1, s - (kd n).2) k (pc + 3) lc (aR (some n) :: st) (alo σ) Q
  | none => False
def vnewa (t len : Nat) : Prop := match b with
  | (d, c, s) => p1i st fun n r => 1 ≤ c ∧ (kd (sn σ)).2 ≤ s ∧ (kd (sn σ)).1 = t ∧ ¬ n < 0 ∧ n.toNatClampNeg = (kd (sn σ)).2 ∧ n.toNatClampNeg ≤ 10000 ∧ P (d, c - 1, s - (kd (sn σ)).2) k (pc + len) lc (aR (some (sn σ)) :: r) (alo σ) Q
def vop (len : Nat) (i : Instr) : Prop := match i with
  | .iconst n => gd (len.beq 1) (P b k (pc + 1) lc (aI (Int32.ofInt n) :: st) σ Q)
  | .bipush n => gd (len.beq 2) (P b k (pc + 2) lc (aI (Int8.ofInt n).toInt32 :: st) σ Q)
  | .sipush n => gd (len.beq 3) (P b k (pc + 3) lc (aI (Int16.ofInt n).toInt32 :: st) σ Q)
  | .lconst n => gd (len.beq 1) (P b k (pc + 1) lc (aL (Int64.ofNat n.val) :: st) σ Q)
  | .ldc2_w x => gd (len.beq 3 && lok k x) (match alook cstT (mC k * 1000 + x) with
    | some v => P b k (pc + 3) lc (aL v :: st) σ Q
    | none => False)
  | .ldc x => gd (len.beq 2 && lok k x) (match alook csiT (mC k * 1000 + x) with
    | some v => P b k (pc + 2) lc (aI v :: st) σ Q
    | none => False)
  | .aconst_null => gd (len.beq 1) (P b k (pc + 1) lc (aR none :: st) σ Q)
  | .iload x => gd (len.beq 2) (ldi lc x fun v => P b k (pc + 2) lc (aI v :: st) σ Q)
  | .iload_n x => gd (len.beq 1) (ldi lc x.val fun v => P b k (pc + 1) lc (aI v :: st) σ Q)
  | .lload x => gd (len.beq 2) (ldl lc x fun v => P b k (pc + 2) lc (aL v :: st) σ Q)
  | .lload_n x => gd (len.beq 1) (ldl lc x.val fun v => P b k (pc + 1) lc (aL v :: st) σ Q)
  | .aload x => gd (len.beq 2) (lda lc x fun v => P b k (pc + 2) lc (aR v :: st) σ Q)
  | .aload_n x => gd (len.beq 1) (lda lc x.val fun v => P b k (pc + 1) lc (aR v :: st) σ Q)
  | .istore x => gd (len.beq 2 && x.blt (mX k)) (p1i st fun v r => P b k (pc + 2) (ls1 lc x (aI v)) r σ Q)
  | .istore_n x => gd (len.beq 1 && x.val.blt (mX k)) (p1i st fun v r => P b k (pc + 1) (ls1 lc x.val (aI v)) r σ Q)
  | .lstore x => gd (len.beq 2 && (x + 1).blt (mX k)) (p1l st fun v r => P b k (pc + 2) (ls2 lc x (aL v)) r σ Q)
  | .lstore_n x => gd (len.beq 1 && (x.val + 1).blt (mX k)) (p1l st fun v r => P b k (pc + 1) (ls2 lc x.val (aL v)) r σ Q)
  | .astore x => gd (len.beq 2 && x.blt (mX k)) (p1r st fun v r => P b k (pc + 2) (ls1 lc x (aR v)) r σ Q)
  | .astore_n x => gd (len.beq 1 && x.val.blt (mX k)) (p1r st fun v r => P b k (pc + 1) (ls1 lc x.val (aR v)) r σ Q)
  | .iinc x n => gd (len.beq 3 && x.blt (mX k)) (ldi lc x fun v => P b k (pc + 3) (ls1 lc x (aI (v + Int32.ofInt n))) st σ Q)
  | .iadd => gd (len.beq 1) (p1i st fun y r1 => p1i r1 fun x r => P b k (pc + 1) lc (aI (x + y) :: r) σ Q)
  | .isub => gd (len.beq 1) (p1i st fun y r1 => p1i r1 fun x r => P b k (pc + 1) lc (aI (x - y) :: r) σ Q)
  | .imul => gd (len.beq 1) (p1i st fun y r1 => p1i r1 fun x r => P b k (pc + 1) lc (aI (x * y) :: r) σ Q)
  | .iand => gd (len.beq 1) (p1i st fun y r1 => p1i r1 fun x r => P b k (pc + 1) lc (aI (x &&& y) :: r) σ Q)
  | .idiv => gd (len.beq 1) (p1i st fun y r1 => p1i r1 fun x r => ¬ y = 0 ∧ P b k (pc + 1) lc (aI (x / y) :: r) σ Q)
  | .irem => gd (len.beq 1) (p1i st fun y r1 => p1i r1 fun x r => ¬ y = 0 ∧ P b k (pc + 1) lc (aI (x - x / y * y) :: r) σ Q)
  | .ladd => gd (len.beq 1) (p1l st fun y r1 => p1l r1 fun x r => P b k (pc + 1) lc (aL (x + y) :: r) σ Q)
  | .lsub => gd (len.beq 1) (p1l st fun y r1 => p1l r1 fun x r => P b k (pc + 1) lc (aL (x - y) :: r) σ Q)
  | .land => gd (len.beq 1) (p1l st fun y r1 => p1l r1 fun x r => P b k (pc + 1) lc (aL (x &&& y) :: r) σ Q)
  | .lor => gd (len.beq 1) (p1l st fun y r1 => p1l r1 fun x r => P b k (pc + 1) lc (aL (x ||| y) :: r) σ Q)
  | .ldiv => gd (len.beq 1) (p1l st fun y r1 => p1l r1 fun x r => ¬ y = 0 ∧ P b k (pc + 1) lc (aL (x / y) :: r) σ Q)
  | .lneg => gd (len.beq 1) (p1l st fun x r => P b k (pc + 1) lc (aL (-x) :: r) σ Q)
  | .lshl => gd (len.beq 1) (p1i st fun y r1 => p1l r1 fun x r => P b k (pc + 1) lc (aL (x <<< (y.toInt64 &&& 63)) :: r) σ Q)
  | .lshr => gd (len.beq 1) (p1i st fun y r1 => p1l r1 fun x r => P b k (pc + 1) lc (aL (x >>> (y.toInt64 &&& 63)) :: r) σ Q)
  | .i2l => gd (len.beq 1) (p1i st fun x r => P b k (pc + 1) lc (aL x.toInt64 :: r) σ Q)
  | .lcmp => gd (len.beq 1) (p1l st fun y r1 => p1l r1 fun x r => P b k (pc + 1) lc (aI (lg_cmp x y) :: r) σ Q)
  | .dup => gd (len.beq 1) (match st with
    | v :: r => gd ((cat2 v).beq 1) (P b k (pc + 1) lc (v :: v :: r) σ Q)
    | [] => False)
  | .dup2 => gd (len.beq 1) (match st with
    | v :: w :: r => gd ((cat2 v).beq 1 && (cat2 w).beq 1) (P b k (pc + 1) lc (v :: w :: v :: w :: r) σ Q)
    | _ => False)
  | .ifCond c off => gd (len.beq 3) (p1i st fun x r => jmp pc off fun t => (ifc c x → P b k t lc r σ Q) ∧ (ifn c x → P b k (pc + 3) lc r σ Q))
  | .if_icmp c off => gd (len.beq 3) (p1i st fun y r1 => p1i r1 fun x r => jmp pc off fun t => (icc c x y → P b k t lc r σ Q) ∧ (icn c x y → P b k (pc + 3) lc r σ Q))
  | .if_acmp c off => gd (len.beq 3) (p1r st fun y r1 => p1r r1 fun x r => jmp pc off fun t => (acc c x y → P b k t lc r σ Q) ∧ (acn c x y → P b k (pc + 3) lc r σ Q))
  | .ifnull off => gd (len.beq 3) (p1r st fun x r => jmp pc off fun t => (x = none → P b k t lc r σ Q) ∧ (¬ x = none → P b k (pc + 3) lc r σ Q))
  | .ifnonnull off => gd (len.beq 3) (p1r st fun x r => jmp pc off fun t => (¬ x = none → P b k t lc r σ Q) ∧ (x = none → P b k (pc + 3) lc r σ Q))
  | .goto off => gd (len.beq 3) (jmp pc off fun t => P b k t lc st σ Q)
  | .tableswitch d lo hi offs => gd (decide ((offs.size : Int) = hi - lo + 1)) (p1i st fun x r => jmp pc (swt d lo hi offs x) fun t => P b k t lc r σ Q)
  | .getfield x => gd (len.beq 3 && lok k x) (vget P b k pc lc st σ Q (alook fldT (mC k * 1000 + x)))
  | .putfield x => gd (len.beq 3 && lok k x) (vput P b k pc lc st σ Q (alook fldT (mC k * 1000 + x)))
  | .iaload => gd (len.beq 1) (p1i st fun i r1 => p1o r1 fun a r => okX σ a i ∧ P b k (pc + 1) lc (aI (gi σ a i.toNatClampNeg) :: r) σ Q)
  | .baload => gd (len.beq 1) (p1i st fun i r1 => p1o r1 fun a r => okA σ a 9 i ∧ P b k (pc + 1) lc (aI (gi σ a i.toNatClampNeg) :: r) σ Q)
  | .laload => gd (len.beq 1) (p1i st fun i r1 => p1o r1 fun a r => okA σ a 8 i ∧ P b k (pc + 1) lc (aL (gl σ a i.toNatClampNeg) :: r) σ Q)
  | .aaload => gd (len.beq 1) (p1i st fun i r1 => p1o r1 fun a r => okA σ a 10 i ∧ P b k (pc + 1) lc (aR (gr σ a i.toNatClampNeg) :: r) σ Q)
  | .iastore => gd (len.beq 1) (p1i st fun x r0 => p1i r0 fun i r1 => p1o r1 fun a r => okA σ a 7 i ∧ P b k (pc + 1) lc r (si σ a i.toNatClampNeg x) Q)
  | .bastore => gd (len.beq 1) (p1i st fun x r0 => p1i r0 fun i r1 => p1o r1 fun a r => okA σ a 9 i ∧ (x = 0 ∨ x = 1) ∧ P b k (pc + 1) lc r (si σ a i.toNatClampNeg x) Q)
  | .lastore => gd (len.beq 1) (p1l st fun x r0 => p1i r0 fun i r1 => p1o r1 fun a r => okA σ a 8 i ∧ P b k (pc + 1) lc r (sl σ a i.toNatClampNeg x) Q)
  | .aastore => gd (len.beq 1) (p1o st fun x r0 => p1i r0 fun i r1 => p1o r1 fun a r => okA σ a 10 i ∧ okO σ x 3 ∧ P b k (pc + 1) lc r (sr σ a i.toNatClampNeg (some x)) Q)
  | .arraylength => gd (len.beq 1) (p1o st fun a r => okL σ a ∧ P b k (pc + 1) lc (aI (Int32.ofNat (aln σ a)) :: r) σ Q)
  | .new x => gd (len.beq 3 && lok k x) (vnew P b k pc lc st σ Q (sn σ) (alook clkT (mC k * 1000 + x)))
  | .newarray .int => gd (len.beq 2) (vnewa P b k pc lc st σ Q 7 2)
  | .newarray .long => gd (len.beq 2) (vnewa P b k pc lc st σ Q 8 2)
  | .newarray .boolean => gd (len.beq 2) (vnewa P b k pc lc st σ Q 9 2)
  | .anewarray x => gd (len.beq 3 && lok k x) (match alook clkT (mC k * 1000 + x) with
    | some 3 => vnewa P b k pc lc st σ Q 10 3
    | _ => False)
  | .invokevirtual x => gd (len.beq 3 && lok k x) (vinv P b k pc lc st σ Q 0 (alook mlkT (mC k * 1000 + x)))
  | .invokespecial x => gd (len.beq 3 && lok k x) (vinv P b k pc lc st σ Q 1 (alook mlkT (mC k * 1000 + x)))
  | .invokestatic x => gd (len.beq 3 && lok k x) (vinv P b k pc lc st σ Q 2 (alook mlkT (mC k * 1000 + x)))
  | .return_ => gd (len.beq 1) (vret st σ Q (mK k) .return_)
  | .ireturn => gd (len.beq 1) (vret st σ Q (mK k) .ireturn)
  | .lreturn => gd (len.beq 1) (vret st σ Q (mK k) .lreturn)
  | .areturn => gd (len.beq 1) (vret st σ Q (mK k) .areturn)
  | _ => False
def vstep : Prop := match ins k pc with
  | some (i, len) => vop P b k pc lc st σ Q len i
  | none => False
end
def Ev (b : B3) (k pc : Nat) (lc st : List AV) (σ : Sto) (Q : Po) : Prop :=
  ∀ P : EvT, (∀ b k pc lc st σ Q, vstep P b k pc lc st σ Q → P b k pc lc st σ Q) → P b k pc lc st σ Q
