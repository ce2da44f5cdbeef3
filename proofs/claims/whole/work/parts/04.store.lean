/-! the store: all ints, references, longs and kinds of the cells; a code is 10000 * kind + 100 * field + the kind referred to -/
abbrev Sg : Type := (Nat → Nat → Nat → Int32) × (Nat → Nat → Nat → Option Nat) × (Nat → Nat → Int64) × (Nat → Nat)
def sI (σ : Sg) (c a x : Nat) (v : Int32) : Sg := (fun c' a' x' => if c' = c ∧ a' = a ∧ x' = x then v else σ.1 c' a' x', σ.2)
def sO (σ : Sg) (c a x : Nat) (v : Option Nat) : Sg := (σ.1, fun c' a' x' => if c' = c ∧ a' = a ∧ x' = x then v else σ.2.1 c' a' x', σ.2.2)
def sJ (σ : Sg) (a x : Nat) (v : Int64) : Sg := (σ.1, σ.2.1, fun a' x' => if a' = a ∧ x' = x then v else σ.2.2.1 a' x', σ.2.2.2)
/-- a new array of one long -/
def sL (σ : Sg) (q : Nat) : Sg := (fun c a x => if a = q then 0 else σ.1 c a x, fun c a x => if a = q then none else σ.2.1 c a x, fun a x => if a = q then 0 else σ.2.2.1 a x, fun a => if a = q then 90 else σ.2.2.2 a)
/-- a new cell of kind k at q, all fields as they are made -/
def sN (σ : Sg) (q k : Nat) : Sg := (fun c a x => if a = q then 0 else σ.1 c a x, fun c a x => if a = q then none else σ.2.1 c a x, σ.2.2.1, fun a => if a = q then k else σ.2.2.2 a)
def sA (σ : Sg) (q k n : Nat) : Sg := sI (sN σ q k) (10000 * k + 9900) q 0 (nI n)
abbrev MV : Type := Int32 ⊕ (Option Nat ⊕ Int64)
abbrev vI (x : Int32) : MV := .inl x
abbrev vR (r : Option Nat) : MV := .inr (.inl r)
abbrev vL (x : Int64) : MV := .inr (.inr x)
def toV : MV → Value
  | .inl x => .int x
  | .inr (.inl r) => va_rf r
  | .inr (.inr x) => .long x
def lkp {α : Type} : Nat → List (Nat × α) → Option α
  | _, [] => none
  | n, (a, x) :: r => bif Nat.beq a n then some x else lkp n r
def mkF (k : Nat) (σ : Sg) (a : Nat) : Nat → List (Option Nat) → List MV
  | _, [] => []
  | j, none :: ds => vI (σ.1 (10000 * k + 100 * j) a 0) :: mkF k σ a (j + 1) ds
  | j, some t :: ds => vR (σ.2.1 (10000 * k + 100 * j + t) a 0) :: mkF k σ a (j + 1) ds
def lenK (k : Nat) (σ : Sg) (a : Nat) (n : Option Nat) : Nat := match n with
  | some n => n
  | none => (σ.1 (10000 * k + 9900) a 0).toNatClampNeg
def cellK (cA : Nat → ClassId) (k : Nat) (σ : Sg) (a : Nat) : va_E :=
  match fdT k with
  | some (ci, ds) => .inr (ci, (mkF k σ a 0 ds).map toV)
  | none => match adT k with
    | some (t, n, none) => .inl (cA t, lenK k σ a n, .inl (fun x => σ.1 (10000 * k) a x))
    | some (t, n, some tk) => .inl (cA t, lenK k σ a n, .inr (.inr (.inr (.inr (fun x => σ.2.1 (10000 * k + tk) a x)))))
    | none => .inl (cA 2, 1, .inr (.inl (fun x => σ.2.2.1 a x)))
theorem lkp_mem {α : Type} {n : Nat} {x : α} : ∀ {l : List (Nat × α)}, lkp n l = some x → (n, x) ∈ l
  | [], h => by cases h
  | (a, y) :: r, h => by
    unfold lkp at h
    cases hb : Nat.beq a n with
    | true =>
      rw [hb] at h
      have e1 : a = n := Nat.eq_of_beq_eq_true hb
      cases (show some y = some x from h)
      rw [e1]
      exact List.mem_cons_self
    | false =>
      rw [hb] at h
      exact List.mem_cons_of_mem _ (lkp_mem (show lkp n r = some x from h))
theorem mkF_I {k : Nat} {σ : Sg} {c a x b : Nat} {v : Int32} (hb : b ≠ a) : ∀ (ds : List (Option Nat)) (j : Nat), mkF k (sI σ c a x v) b j ds = mkF k σ b j ds
  | [], _ => rfl
  | none :: ds, j => by simp only [mkF, mkF_I hb ds]; simp [sI, hb]
  | some t :: ds, j => by simp only [mkF, mkF_I hb ds]; simp [sI, hb]
theorem mkF_O {k : Nat} {σ : Sg} {c a x b : Nat} {v : Option Nat} (hb : b ≠ a) : ∀ (ds : List (Option Nat)) (j : Nat), mkF k (sO σ c a x v) b j ds = mkF k σ b j ds
  | [], _ => rfl
  | none :: ds, j => by simp only [mkF, mkF_O hb ds]; simp [sO, hb]
  | some t :: ds, j => by simp only [mkF, mkF_O hb ds]; simp [sO, hb]
theorem mkF_J {k : Nat} {σ : Sg} {a x b : Nat} {v : Int64} : ∀ (ds : List (Option Nat)) (j : Nat), mkF k (sJ σ a x v) b j ds = mkF k σ b j ds
  | [], _ => rfl
  | none :: ds, j => by simp only [mkF, mkF_J ds]; simp [sJ]
  | some t :: ds, j => by simp only [mkF, mkF_J ds]; simp [sJ]
theorem mkF_N {k k' : Nat} {σ : Sg} {q b : Nat} (hb : b ≠ q) : ∀ (ds : List (Option Nat)) (j : Nat), mkF k (sN σ q k') b j ds = mkF k σ b j ds
  | [], _ => rfl
  | none :: ds, j => by simp only [mkF, mkF_N hb ds]; simp [sN, hb]
  | some t :: ds, j => by simp only [mkF, mkF_N hb ds]; simp [sN, hb]
theorem cellK_I {cA : Nat → ClassId} {k : Nat} {σ : Sg} {c a x b : Nat} {v : Int32} (hb : b ≠ a) : cellK cA k (sI σ c a x v) b = cellK cA k σ b := by
  unfold cellK
  cases fdT k with
  | some q => obtain ⟨ci, ds⟩ := q; simp only [mkF_I hb]
  | none => cases adT k with
    | none => rfl
    | some q => obtain ⟨t, n, tk⟩ := q; cases n <;> cases tk <;> simp [lenK, sI, hb]
theorem cellK_O {cA : Nat → ClassId} {k : Nat} {σ : Sg} {c a x b : Nat} {v : Option Nat} (hb : b ≠ a) : cellK cA k (sO σ c a x v) b = cellK cA k σ b := by
  unfold cellK
  cases fdT k with
  | some q => obtain ⟨ci, ds⟩ := q; simp only [mkF_O hb]
  | none => cases adT k with
    | none => rfl
    | some q => obtain ⟨t, n, tk⟩ := q; cases n <;> cases tk <;> simp [lenK, sO, hb]
theorem cellK_J {cA : Nat → ClassId} {k : Nat} {σ : Sg} {a x b : Nat} {v : Int64} (hb : b ≠ a) : cellK cA k (sJ σ a x v) b = cellK cA k σ b := by
  unfold cellK
  cases hf : fdT k with
  | some q => obtain ⟨ci, ds⟩ := q; simp only [mkF_J]
  | none => cases ha : adT k with
    | none => simp [sJ, hb]
    | some q => obtain ⟨t, n, tk⟩ := q; cases n <;> cases tk <;> rfl
theorem cellK_N {cA : Nat → ClassId} {k k' : Nat} {σ : Sg} {q b : Nat} (hb : b ≠ q) : cellK cA k (sN σ q k') b = cellK cA k σ b := by
  unfold cellK
  cases fdT k with
  | some q => obtain ⟨ci, ds⟩ := q; simp only [mkF_N hb]
  | none => cases adT k with
    | none => rfl
    | some q => obtain ⟨t, n, tk⟩ := q; cases n <;> cases tk <;> simp [lenK, sN, hb]
theorem cellK_A {cA : Nat → ClassId} {k k' : Nat} {σ : Sg} {q b n : Nat} (hb : b ≠ q) : cellK cA k (sA σ q k' n) b = cellK cA k σ b := by
  unfold sA
  rw [cellK_I hb, cellK_N hb]
theorem mkF_L {k : Nat} {σ : Sg} {q b : Nat} (hb : b ≠ q) : ∀ (ds : List (Option Nat)) (j : Nat), mkF k (sL σ q) b j ds = mkF k σ b j ds
  | [], _ => rfl
  | none :: ds, j => by simp only [mkF, mkF_L hb ds]; simp [sL, hb]
  | some t :: ds, j => by simp only [mkF, mkF_L hb ds]; simp [sL, hb]
theorem cellK_L {cA : Nat → ClassId} {k : Nat} {σ : Sg} {q b : Nat} (hb : b ≠ q) : cellK cA k (sL σ q) b = cellK cA k σ b := by
  unfold cellK
  cases fdT k with
  | some q => obtain ⟨ci, ds⟩ := q; simp only [mkF_L hb]
  | none => cases adT k with
    | none => simp [sL, hb]
    | some q => obtain ⟨t, n, tk⟩ := q; cases n <;> cases tk <;> simp [lenK, sL, hb]
/-- a field set: the list of fields is set there -/
theorem mkF_len {k : Nat} {σ : Sg} {a : Nat} : ∀ (ds : List (Option Nat)) (j : Nat), (mkF k σ a j ds).length = ds.length
  | [], _ => rfl
  | none :: ds, j => by simp [mkF, mkF_len ds]
  | some t :: ds, j => by simp [mkF, mkF_len ds]
theorem mkF_setI {k : Nat} {σ : Sg} {a i : Nat} {v : Int32} : ∀ (ds : List (Option Nat)) (j : Nat), ds[i]? = some none → (∀ t ∈ ds, ∀ u, t = some u → u < 100) → mkF k (sI σ (10000 * k + 100 * (j + i)) a 0 v) a j ds = (mkF k σ a j ds).set i (vI v)
  | [], _, h, _ => by cases h
  | d :: ds, j, h, hd => by
    cases i with
    | zero =>
      have hz : d = none := Option.some.inj h
      subst hz
      have h2 : ∀ (ds : List (Option Nat)) (m : Nat), j < m → mkF k (sI σ (10000 * k + 100 * (j + 0)) a 0 v) a m ds = mkF k σ a m ds := by
        intro ds
        induction ds with
        | nil => intro m _; rfl
        | cons d ds ih =>
          intro m hm
          cases d with
          | none => simp only [mkF, ih (m + 1) (by omega)]; congr 2; simp only [sI]; rw [if_neg (by omega)]
          | some t => simp only [mkF, ih (m + 1) (by omega)]; rfl
      simp only [mkF, List.set_cons_zero, h2 ds (j + 1) (by omega)]
      congr 2
      simp [sI]
    | succ i =>
      have e : j + (i + 1) = (j + 1) + i := by omega
      rw [e]
      have ih := mkF_setI (k := k) (σ := σ) (a := a) (v := v) (i := i) ds (j + 1) h (fun t ht => hd t (List.mem_cons_of_mem _ ht))
      cases d with
      | none => simp only [mkF, List.set_cons_succ, ih]; congr 2; simp only [sI]; rw [if_neg (by omega)]
      | some t => simp only [mkF, List.set_cons_succ, ih]; rfl
theorem mkF_setO {k : Nat} {σ : Sg} {a i t : Nat} {v : Option Nat} : ∀ (ds : List (Option Nat)) (j : Nat), ds[i]? = some (some t) → (∀ t ∈ ds, ∀ u, t = some u → u < 100) → mkF k (sO σ (10000 * k + 100 * (j + i) + t) a 0 v) a j ds = (mkF k σ a j ds).set i (vR v)
  | [], _, h, _ => by cases h
  | d :: ds, j, h, hd => by
    cases i with
    | zero =>
      have hz : d = some t := Option.some.inj h
      subst hz
      have ht : t < 100 := hd (some t) List.mem_cons_self t rfl
      have h2 : ∀ (ds : List (Option Nat)) (m : Nat), j < m → mkF k (sO σ (10000 * k + 100 * (j + 0) + t) a 0 v) a m ds = mkF k σ a m ds := by
        intro ds
        induction ds with
        | nil => intro m _; rfl
        | cons d ds ih =>
          intro m hm
          cases d with
          | none => simp only [mkF, ih (m + 1) (by omega)]; rfl
          | some u => simp only [mkF, ih (m + 1) (by omega)]; congr 2; simp only [sO]; rw [if_neg (by omega)]
      simp only [mkF, List.set_cons_zero, h2 ds (j + 1) (by omega)]
      congr 2
      simp [sO]
    | succ i =>
      have e : j + (i + 1) = (j + 1) + i := by omega
      rw [e]
      have ht : t < 100 := hd (some t) (List.mem_cons_of_mem _ (List.mem_of_getElem? h)) t rfl
      have ih := mkF_setO (k := k) (σ := σ) (a := a) (v := v) (i := i) (t := t) ds (j + 1) h (fun t ht => hd t (List.mem_cons_of_mem _ ht))
      cases d with
      | none => simp only [mkF, List.set_cons_succ, ih]; rfl
      | some u => 
        have hu : u < 100 := hd (some u) List.mem_cons_self u rfl
        simp only [mkF, List.set_cons_succ, ih]; congr 2; simp only [sO]; rw [if_neg (by omega)]
