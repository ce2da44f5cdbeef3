/-! new arrays -/
section RN
variable {l : Launch} {E : FE} {R : Room} {mid : Nat} {args : Array Value} {XX : State → Prop} {QF : State → List Frame → State → Prop}
variable {pc len tgt : Nat} {ls : List (Nat × MV)} {st : List MV} {σ : Sg} {cs sl : Nat}
set_option maxRecDepth 20000 in
theorem w_newaI {k N : Nat} {n : Option Nat} {x : Int32} (hq : lkp pc (insL mid) = some (.newarray .int, len, tgt)) (hx9 : x = nI N) (hN : N ≤ 100000) (k0 : Nat) (hk0 : k0 = k) (had : adT k = some (0, n, none)) (hn : n = none ∨ n = some N) (hcs : cs + 1 ≤ R.cells) (hsl : sl + N ≤ R.slots) (kk : ∀ q, σ.2.2.2 q = 0 → q ≠ fe E → WG l E R mid args XX QF (pc + 2, ls, vR (some q) :: st, sA σ q k N, cs + 1, sl + N)) : WG l E R mid args XX QF (pc, ls, vI x :: st, σ, cs, sl) := by
  intro ok p e s m below meth c H locs arr hX F hR hS hl
  obtain ⟨hx, hb, hml, hret, hown, hts, hlocks, hnm, hK, hz, hZ, htab⟩ := id F
  obtain ⟨hd, hlen, hoff⟩ := ok.at hq
  cases hlen rfl
  subst hx9
  refine f_newa (atype := .int) (ty := .int) (a0 := (N, .inl (fun _ => 0))) (t := 0) hx hb (hts _ ac_int) rfl hK hR hS hz rfl (fun cA => rfl) (nI_pos (by omega)) (nI_clamp (by omega)) (by show N * _ ≤ _; simp only [componentBytes]; omega) hcs hsl (k := k) (fun q => ?_) hd (fun q H1 h0 hR1 hS1 => kk q h0 (fun e9 => by have h9 := fe_kd ⟨H1, hR1⟩ ⟨s, hZ⟩; rw [← e9] at h9; have h8 : (sA σ q k N).2.2.2 q = k := (by simp [sA, sI, sN]); rw [h8] at h9; exact ad0 had h9) ok p e s m below meth c H1 locs arr hX F hR1 hS1 hl)
  rw [cellK_ai had]
  have e1 : lenK k (sA σ q k N) q n = N := by
    rcases hn with rfl | rfl
    · simp [lenK, sA, sI, nI_clamp (show N < 2 ^ 31 by omega)]
    · rfl
  rw [e1]
  congr 4
  funext y
  simp only [sA, sI, sN]
  rw [if_neg (by omega), if_pos trivial]
set_option maxRecDepth 20000 in
theorem w_newaZ {k N : Nat} {n : Option Nat} {x : Int32} (hq : lkp pc (insL mid) = some (.newarray .boolean, len, tgt)) (hx9 : x = nI N) (hN : N ≤ 100000) (k0 : Nat) (hk0 : k0 = k) (had : adT k = some (1, n, none)) (hn : n = none ∨ n = some N) (hcs : cs + 1 ≤ R.cells) (hsl : sl + N ≤ R.slots) (kk : ∀ q, σ.2.2.2 q = 0 → q ≠ fe E → WG l E R mid args XX QF (pc + 2, ls, vR (some q) :: st, sA σ q k N, cs + 1, sl + N)) : WG l E R mid args XX QF (pc, ls, vI x :: st, σ, cs, sl) := by
  intro ok p e s m below meth c H locs arr hX F hR hS hl
  obtain ⟨hx, hb, hml, hret, hown, hts, hlocks, hnm, hK, hz, hZ, htab⟩ := id F
  obtain ⟨hd, hlen, hoff⟩ := ok.at hq
  cases hlen rfl
  subst hx9
  refine f_newa (atype := .boolean) (ty := .boolean) (a0 := (N, .inl (fun _ => 0))) (t := 1) hx hb (hts _ ac_boolean) rfl hK hR hS hz rfl (fun cA => rfl) (nI_pos (by omega)) (nI_clamp (by omega)) (by show N * _ ≤ _; simp only [componentBytes]; omega) hcs hsl (k := k) (fun q => ?_) hd (fun q H1 h0 hR1 hS1 => kk q h0 (fun e9 => by have h9 := fe_kd ⟨H1, hR1⟩ ⟨s, hZ⟩; rw [← e9] at h9; have h8 : (sA σ q k N).2.2.2 q = k := (by simp [sA, sI, sN]); rw [h8] at h9; exact ad0 had h9) ok p e s m below meth c H1 locs arr hX F hR1 hS1 hl)
  rw [cellK_ai had]
  have e1 : lenK k (sA σ q k N) q n = N := by
    rcases hn with rfl | rfl
    · simp [lenK, sA, sI, nI_clamp (show N < 2 ^ 31 by omega)]
    · rfl
  rw [e1]
  congr 4
  funext y
  simp only [sA, sI, sN]
  rw [if_neg (by omega), if_pos trivial]
set_option maxRecDepth 20000 in
theorem w_newqC {idx ci k N t tk : Nat} {n : Option Nat} {q9 : vw_C} {x : Int32} (hq : lkp pc (insL mid) = some (.anewarray idx, len, tgt)) (hc : lkp idx (clT (cnoM mid)) = some ci) (hr : vwCl[ci]? = some q9) (hao : q9.1 ∈ AOs) (ht : (fT E)[t]? = some (fC E t, .object q9.1)) (hx9 : x = nI N) (hN : N ≤ 100000) (k0 : Nat) (hk0 : k0 = k) (had : adT k = some (t, n, some tk)) (h100 : tk < 100) (hn : n = none ∨ n = some N) (hcs : cs + 1 ≤ R.cells) (hsl : sl + N ≤ R.slots) (kk : ∀ q, σ.2.2.2 q = 0 → q ≠ fe E → WG l E R mid args XX QF (pc + 3, ls, vR (some q) :: st, sA σ q k N, cs + 1, sl + N)) : WG l E R mid args XX QF (pc, ls, vI x :: st, σ, cs, sl) := by
  intro ok p e s m below meth c H locs arr hX F hR hS hl
  obtain ⟨hx, hb, hml, hret, hown, hts, hlocks, hnm, hK, hz, hZ, htab⟩ := id F
  obtain ⟨hd, hlen, hoff⟩ := ok.at hq
  cases hlen rfl
  subst hx9
  have hown' : s.vm.findClass (RCn (cnoM mid)) = some m.cls := by rw [ok.1] at hown; exact hown
  refine f_newq hx hb hown' (hts _ (clOK hc hr)) (hZ.1 _ hao) hK hR hS hz ht (nI_pos (by omega)) (nI_clamp (by omega)) (by omega) hcs hsl (k := k) (fun q => ?_) hd (fun q H1 h0 hR1 hS1 => kk q h0 (fun e9 => by have h9 := fe_kd ⟨H1, hR1⟩ ⟨s, hZ⟩; rw [← e9] at h9; have h8 : (sA σ q k N).2.2.2 q = k := (by simp [sA, sI, sN]); rw [h8] at h9; exact ad0 had h9) ok p e s m below meth c H1 locs arr hX F hR1 hS1 hl)
  rw [cellK_aq had]
  have e1 : lenK k (sA σ q k N) q n = N := by
    rcases hn with rfl | rfl
    · simp [lenK, sA, sI, nI_clamp (show N < 2 ^ 31 by omega)]
    · rfl
  rw [e1]
  congr 7
  funext y
  simp [sA, sI, sN]
end RN
