/-! loops -/
/-- f at i, i + 1, .., k times, onto a -/
def itF {α : Type} (f : Nat → α → α) : Nat → Nat → α → α
  | 0, _, a => a
  | k + 1, i, a => itF f k (i + 1) (f i a)
theorem itF_succ {α : Type} (f : Nat → α → α) (k i : Nat) (a : α) : itF f (k + 1) i a = itF f k (i + 1) (f i a) := rfl
theorem itF_last {α : Type} (f : Nat → α → α) : ∀ (k i : Nat) (a : α), itF f (k + 1) i a = f (i + k) (itF f k i a)
  | 0, _, _ => rfl
  | k + 1, i, a => by
    rw [itF_succ, itF_last f k (i + 1) (f i a), itF_succ, show i + 1 + k = i + (k + 1) from by omega]
/-- a property that each step keeps -/
theorem itF_ind {α : Type} {f : Nat → α → α} (P : Nat → α → Prop) : ∀ (k i : Nat) (a : α), P i a → (∀ j b, i ≤ j → j < i + k → P j b → P (j + 1) (f j b)) → P (i + k) (itF f k i a)
  | 0, _, _, h, _ => h
  | k + 1, i, a, h, hs => by
    rw [itF_succ, show i + (k + 1) = (i + 1) + k from by omega]
    exact itF_ind P k (i + 1) (f i a) (hs i a (Nat.le_refl _) (by omega) h) (fun j b h1 h2 => hs j b (by omega) (by omega))
section LP
variable {l : Launch} {E : FE} {R : Room} {mid : Nat} {args : Array Value} {XX : State → Prop} {QF : State → List Frame → State → Prop} {pc cs sl : Nat} {ls : List (Nat × MV)} {st : List MV} {σ : Sg}
/-- some of the locals, in another order -/
theorem w_lsP (π : List Nat) (k : WG l E R mid args XX QF (pc, π.filterMap (fun i => ls[i]?), st, σ, cs, sl)) : WG l E R mid args XX QF (pc, ls, st, σ, cs, sl) := by
  intro ok p e s m below meth c H locs arr hX F hR hS hl
  refine k ok p e s m below meth c H locs arr hX F hR hS ⟨hl.1, hl.2.1, fun q hq => hl.2.2 q ?_⟩
  obtain ⟨q0, h0, rfl⟩ := List.mem_map.mp hq
  obtain ⟨j, -, hj⟩ := List.mem_filterMap.mp h0
  exact List.mem_map.mpr ⟨q0, List.mem_of_getElem? hj, rfl⟩
end LP
