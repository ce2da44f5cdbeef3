/-! the model: born -/
def bnT (al : Nat → Int32) (p : Int32) : Int32 := if p < 0 then 1 else if p ≤ 3 then (if al p.toNatClampNeg = 0 then 0 else 2) else 1
def bf1 (A : Nat → Nat) (p : Nat) : Nat → Sg → Sg := fun k τ => sI τ 530000 (A 2) (10 * p + k) 0
def bf2 (A : Nat → Nat) (p : Nat) : Nat → Sg → Sg := fun k τ => sI (sI τ 550000 (A 4) (16 * p + k) 0) 560000 (A 5) (16 * p + k) 0
def bf3 (A : Nat → Nat) (p : Nat) : Nat → Sg → Sg := fun k τ => sI τ 610000 (A 10) (64 * p + k) 0
theorem brn_eq (σ : Sg) (m : Nat) (A : Nat → Nat) (p : Nat) : brnS σ m A p = sI (sI (sI (sI (sI (sI (sI (sI (sI (sI (sI (itF (bf3 A p) 64 0 (itF (bf2 A p) 16 0 (itF (bf1 A p) 10 0 (sI (sI (sI σ 500000 m 0 0) 510000 (A 0) p 1) 520000 (A 1) p (σ.1 520000 (A 1) p + 1))))) 570000 (A 6) p 0) 580000 (A 7) p 0) 720000 (A 21) p 0) 740000 (A 23) p 0) 770000 (A 26) p 0) 780000 (A 27) p 0) 810000 (A 30) (5 * p) 0) 810000 (A 30) (5 * p + 1) (-1)) 810000 (A 30) (5 * p + 2) (-1)) 810000 (A 30) (5 * p + 3) (-1)) 810000 (A 30) (5 * p + 4) 0 := rfl
set_option maxRecDepth 20000 in
set_option maxHeartbeats 4000000 in
theorem lk_mo_born1 (l : Launch) (E : FE) (d : Nat) (σ : Sg) (m : Nat) (A : Nat → Nat) (p : Nat) (hp : p < 4) {mc ms cs sl : Nat} {args : Array Value} {XX : State → Prop} {QF : State → List Frame → State → Prop} (hcs : cs ≤ mc) (hsl : sl ≤ ms) : ∀ (k i : Nat), i + k = 10 → ∀ (τ : Sg), MO τ m A → (∀ (τ' : Sg), τ' = itF (bf1 A p) k i τ → MO τ' m A → WG l E (RM d mc ms) 78 args XX QF (82, [(0, vR (some m)), (1, vI (nI p))], [], τ', cs, sl)) →
    WG l E (RM d mc ms) 78 args XX QF (58, [(2, vI (nI i)), (0, vR (some m)), (1, vI (nI p))], [], τ, cs, sl) := by
  intro k
  induction k with
  | zero =>
    intro i hi τ hM K
    refine w_run 2 (S' := (61, [(2, vI (nI i)), (0, vR (some m)), (1, vI (nI p))], [vI 10, vI (nI i)], τ, cs, sl)) rfl ?_
    refine w_ic_ge rfl (fun c1 => ?_) (fun c1 => (absurd ((nI_leI (a := 10) (b := i) (by omega) (by omega)).mpr (by omega)) c1))
    have nc1 := (nI_leI (a := 10) (b := i) (by omega) (by omega)).mp c1
    refine w_lsP [1, 2] ?_
    show WG _ _ _ _ _ _ _ (82, [(0, vR (some m)), (1, vI (nI p))], [], τ, cs, sl)
    exact K τ rfl hM
  | succ k ih =>
    intro i hi τ hM K
    refine w_run 2 (S' := (61, [(2, vI (nI i)), (0, vR (some m)), (1, vI (nI p))], [vI 10, vI (nI i)], τ, cs, sl)) rfl ?_
    refine w_ic_ge rfl (fun c1 => (absurd ((nI_leI (a := 10) (b := i) (by omega) (by omega)).mp c1) (by omega))) (fun c1 => ?_)
    have nc1 := mt (nI_leI (a := 10) (b := i) (by omega) (by omega)).mpr c1
    refine w_run 1 (S' := (65, [(2, vI (nI i)), (0, vR (some m)), (1, vI (nI p))], [vR (some m)], τ, cs, sl)) rfl ?_
    refine w_get (k := 50) (vR (τ.2.1 500453 m 0)) rfl rfl rfl hM.1 rfl rfl ?_
    refine w_run 6 (S' := (75, [(2, vI (nI i)), (0, vR (some m)), (1, vI (nI p))], [vI 0, vI ((10 * (nI p)) + (nI i)), vR (τ.2.1 500453 m 0)], τ, cs, sl)) rfl ?_
    rw [show ((10 * (nI p)) + (nI i) : Int32) = nI (10 * p + i) from by simp only [nl0, nl1, nl2, nl3, nl4, nl5, nl6, nl8, nl9, nl10, nl12, nl15, nl16, nl20, nl24, nl32, nl40, nl64, nl65, nl384, pk_mul, nI_add]]
    show WG _ _ _ _ _ _ _ (75, [(2, vI (nI i)), (0, vR (some m)), (1, vI (nI p))], [vI 0, vI (nI (10 * p + i)), vR (τ.2.1 500453 m 0)], τ, cs, sl)
    refine w_zast (k := 53) rfl ((hM.2 2 (by decide)).1) ((hM.2 2 (by decide)).2) rfl (show vp_in (nI (10 * p + i)) 40 from vp_in_nI (n := 10 * p + i) (by omega) (by decide)) (Or.inl rfl) ?_
    show WG _ _ _ _ _ _ _ (76, [(2, vI (nI i)), (0, vR (some m)), (1, vI (nI p))], [], sI τ 530000 (A 2) ((nI (10 * p + i)).toNatClampNeg) 0, cs, sl)
    rw [show (nI (10 * p + i) : Int32).toNatClampNeg = 10 * p + i from nI_clamp (n := 10 * p + i) (by omega)]
    refine w_run 2 (S' := (58, [(2, vI ((nI i) + 1)), (0, vR (some m)), (1, vI (nI p))], [], sI τ 530000 (A 2) (10 * p + i) 0, cs, sl)) rfl ?_
    rw [show ((nI i) + 1 : Int32) = nI (i + 1) from by simp only [nl0, nl1, nl2, nl3, nl4, nl5, nl6, nl8, nl9, nl10, nl12, nl15, nl16, nl20, nl24, nl32, nl40, nl64, nl65, nl384, pk_mul, nI_add]]
    show WG _ _ _ _ _ _ _ (58, [(2, vI (nI (i + 1))), (0, vR (some m)), (1, vI (nI p))], [], sI τ 530000 (A 2) (10 * p + i) 0, cs, sl)
    exact ih (i + 1) (by omega) (sI τ 530000 (A 2) (10 * p + i) 0) (hM) (fun τ' e9 q90 => K τ' (by rw [itF_succ, ← (show ((sI τ 530000 (A 2) (10 * p + i) 0) : Sg) = (bf1 A p) i τ from by simp [bf1, c1, nc1])]; exact e9) q90)
set_option maxRecDepth 20000 in
set_option maxHeartbeats 4000000 in
theorem lk_mo_born2 (l : Launch) (E : FE) (d : Nat) (σ : Sg) (m : Nat) (A : Nat → Nat) (p : Nat) (hp : p < 4) {mc ms cs sl : Nat} {args : Array Value} {XX : State → Prop} {QF : State → List Frame → State → Prop} (hcs : cs ≤ mc) (hsl : sl ≤ ms) : ∀ (k i : Nat), i + k = 16 → ∀ (τ : Sg), MO τ m A → (∀ (τ' : Sg), τ' = itF (bf2 A p) k i τ → MO τ' m A → WG l E (RM d mc ms) 78 args XX QF (120, [(0, vR (some m)), (1, vI (nI p))], [], τ', cs, sl)) →
    WG l E (RM d mc ms) 78 args XX QF (84, [(2, vI (nI i)), (0, vR (some m)), (1, vI (nI p))], [], τ, cs, sl) := by
  intro k
  induction k with
  | zero =>
    intro i hi τ hM K
    refine w_run 2 (S' := (87, [(2, vI (nI i)), (0, vR (some m)), (1, vI (nI p))], [vI 16, vI (nI i)], τ, cs, sl)) rfl ?_
    refine w_ic_ge rfl (fun c1 => ?_) (fun c1 => (absurd ((nI_leI (a := 16) (b := i) (by omega) (by omega)).mpr (by omega)) c1))
    have nc1 := (nI_leI (a := 16) (b := i) (by omega) (by omega)).mp c1
    refine w_lsP [1, 2] ?_
    show WG _ _ _ _ _ _ _ (120, [(0, vR (some m)), (1, vI (nI p))], [], τ, cs, sl)
    exact K τ rfl hM
  | succ k ih =>
    intro i hi τ hM K
    refine w_run 2 (S' := (87, [(2, vI (nI i)), (0, vR (some m)), (1, vI (nI p))], [vI 16, vI (nI i)], τ, cs, sl)) rfl ?_
    refine w_ic_ge rfl (fun c1 => (absurd ((nI_leI (a := 16) (b := i) (by omega) (by omega)).mp c1) (by omega))) (fun c1 => ?_)
    have nc1 := mt (nI_leI (a := 16) (b := i) (by omega) (by omega)).mpr c1
    refine w_run 1 (S' := (91, [(2, vI (nI i)), (0, vR (some m)), (1, vI (nI p))], [vR (some m)], τ, cs, sl)) rfl ?_
    refine w_get (k := 50) (vR (τ.2.1 500655 m 0)) rfl rfl rfl hM.1 rfl rfl ?_
    refine w_run 6 (S' := (101, [(2, vI (nI i)), (0, vR (some m)), (1, vI (nI p))], [vI 0, vI ((16 * (nI p)) + (nI i)), vR (τ.2.1 500655 m 0)], τ, cs, sl)) rfl ?_
    rw [show ((16 * (nI p)) + (nI i) : Int32) = nI (16 * p + i) from by simp only [nl0, nl1, nl2, nl3, nl4, nl5, nl6, nl8, nl9, nl10, nl12, nl15, nl16, nl20, nl24, nl32, nl40, nl64, nl65, nl384, pk_mul, nI_add]]
    show WG _ _ _ _ _ _ _ (101, [(2, vI (nI i)), (0, vR (some m)), (1, vI (nI p))], [vI 0, vI (nI (16 * p + i)), vR (τ.2.1 500655 m 0)], τ, cs, sl)
    refine w_iast (k := 55) rfl ((hM.2 4 (by decide)).1) ((hM.2 4 (by decide)).2) rfl (show vp_in (nI (16 * p + i)) 64 from vp_in_nI (n := 16 * p + i) (by omega) (by decide)) ?_
    show WG _ _ _ _ _ _ _ (102, [(2, vI (nI i)), (0, vR (some m)), (1, vI (nI p))], [], sI τ 550000 (A 4) ((nI (16 * p + i)).toNatClampNeg) 0, cs, sl)
    rw [show (nI (16 * p + i) : Int32).toNatClampNeg = 16 * p + i from nI_clamp (n := 16 * p + i) (by omega)]
    refine w_run 1 (S' := (103, [(2, vI (nI i)), (0, vR (some m)), (1, vI (nI p))], [vR (some m)], sI τ 550000 (A 4) (16 * p + i) 0, cs, sl)) rfl ?_
    refine w_get (k := 50) (vR (τ.2.1 500756 m 0)) rfl rfl rfl hM.1 rfl rfl ?_
    refine w_run 6 (S' := (113, [(2, vI (nI i)), (0, vR (some m)), (1, vI (nI p))], [vI 0, vI ((16 * (nI p)) + (nI i)), vR (τ.2.1 500756 m 0)], sI τ 550000 (A 4) (16 * p + i) 0, cs, sl)) rfl ?_
    rw [show ((16 * (nI p)) + (nI i) : Int32) = nI (16 * p + i) from by simp only [nl0, nl1, nl2, nl3, nl4, nl5, nl6, nl8, nl9, nl10, nl12, nl15, nl16, nl20, nl24, nl32, nl40, nl64, nl65, nl384, pk_mul, nI_add]]
    show WG _ _ _ _ _ _ _ (113, [(2, vI (nI i)), (0, vR (some m)), (1, vI (nI p))], [vI 0, vI (nI (16 * p + i)), vR (τ.2.1 500756 m 0)], sI τ 550000 (A 4) (16 * p + i) 0, cs, sl)
    refine w_iast (k := 56) rfl ((hM.2 5 (by decide)).1) ((hM.2 5 (by decide)).2) rfl (show vp_in (nI (16 * p + i)) 64 from vp_in_nI (n := 16 * p + i) (by omega) (by decide)) ?_
    show WG _ _ _ _ _ _ _ (114, [(2, vI (nI i)), (0, vR (some m)), (1, vI (nI p))], [], sI (sI τ 550000 (A 4) (16 * p + i) 0) 560000 (A 5) ((nI (16 * p + i)).toNatClampNeg) 0, cs, sl)
    rw [show (nI (16 * p + i) : Int32).toNatClampNeg = 16 * p + i from nI_clamp (n := 16 * p + i) (by omega)]
    refine w_run 2 (S' := (84, [(2, vI ((nI i) + 1)), (0, vR (some m)), (1, vI (nI p))], [], sI (sI τ 550000 (A 4) (16 * p + i) 0) 560000 (A 5) (16 * p + i) 0, cs, sl)) rfl ?_
    rw [show ((nI i) + 1 : Int32) = nI (i + 1) from by simp only [nl0, nl1, nl2, nl3, nl4, nl5, nl6, nl8, nl9, nl10, nl12, nl15, nl16, nl20, nl24, nl32, nl40, nl64, nl65, nl384, pk_mul, nI_add]]
    show WG _ _ _ _ _ _ _ (84, [(2, vI (nI (i + 1))), (0, vR (some m)), (1, vI (nI p))], [], sI (sI τ 550000 (A 4) (16 * p + i) 0) 560000 (A 5) (16 * p + i) 0, cs, sl)
    exact ih (i + 1) (by omega) (sI (sI τ 550000 (A 4) (16 * p + i) 0) 560000 (A 5) (16 * p + i) 0) (hM) (fun τ' e9 q90 => K τ' (by rw [itF_succ, ← (show ((sI (sI τ 550000 (A 4) (16 * p + i) 0) 560000 (A 5) (16 * p + i) 0) : Sg) = (bf2 A p) i τ from by simp [bf2, c1, nc1])]; exact e9) q90)
set_option maxRecDepth 20000 in
set_option maxHeartbeats 4000000 in
theorem lk_mo_born3 (l : Launch) (E : FE) (d : Nat) (σ : Sg) (m : Nat) (A : Nat → Nat) (p : Nat) (hp : p < 4) {mc ms cs sl : Nat} {args : Array Value} {XX : State → Prop} {QF : State → List Frame → State → Prop} (hcs : cs ≤ mc) (hsl : sl ≤ ms) : ∀ (k i : Nat), i + k = 64 → ∀ (τ : Sg), MO τ m A → (∀ (τ' : Sg), τ' = itF (bf3 A p) k i τ → MO τ' m A → WG l E (RM d mc ms) 78 args XX QF (146, [(0, vR (some m)), (1, vI (nI p))], [], τ', cs, sl)) →
    WG l E (RM d mc ms) 78 args XX QF (122, [(2, vI (nI i)), (0, vR (some m)), (1, vI (nI p))], [], τ, cs, sl) := by
  intro k
  induction k with
  | zero =>
    intro i hi τ hM K
    refine w_run 2 (S' := (125, [(2, vI (nI i)), (0, vR (some m)), (1, vI (nI p))], [vI 64, vI (nI i)], τ, cs, sl)) rfl ?_
    refine w_ic_ge rfl (fun c1 => ?_) (fun c1 => (absurd ((nI_leI (a := 64) (b := i) (by omega) (by omega)).mpr (by omega)) c1))
    have nc1 := (nI_leI (a := 64) (b := i) (by omega) (by omega)).mp c1
    refine w_lsP [1, 2] ?_
    show WG _ _ _ _ _ _ _ (146, [(0, vR (some m)), (1, vI (nI p))], [], τ, cs, sl)
    exact K τ rfl hM
  | succ k ih =>
    intro i hi τ hM K
    refine w_run 2 (S' := (125, [(2, vI (nI i)), (0, vR (some m)), (1, vI (nI p))], [vI 64, vI (nI i)], τ, cs, sl)) rfl ?_
    refine w_ic_ge rfl (fun c1 => (absurd ((nI_leI (a := 64) (b := i) (by omega) (by omega)).mp c1) (by omega))) (fun c1 => ?_)
    have nc1 := mt (nI_leI (a := 64) (b := i) (by omega) (by omega)).mpr c1
    refine w_run 1 (S' := (129, [(2, vI (nI i)), (0, vR (some m)), (1, vI (nI p))], [vR (some m)], τ, cs, sl)) rfl ?_
    refine w_get (k := 50) (vR (τ.2.1 501261 m 0)) rfl rfl rfl hM.1 rfl rfl ?_
    refine w_run 6 (S' := (139, [(2, vI (nI i)), (0, vR (some m)), (1, vI (nI p))], [vI 0, vI ((64 * (nI p)) + (nI i)), vR (τ.2.1 501261 m 0)], τ, cs, sl)) rfl ?_
    rw [show ((64 * (nI p)) + (nI i) : Int32) = nI (64 * p + i) from by simp only [nl0, nl1, nl2, nl3, nl4, nl5, nl6, nl8, nl9, nl10, nl12, nl15, nl16, nl20, nl24, nl32, nl40, nl64, nl65, nl384, pk_mul, nI_add]]
    show WG _ _ _ _ _ _ _ (139, [(2, vI (nI i)), (0, vR (some m)), (1, vI (nI p))], [vI 0, vI (nI (64 * p + i)), vR (τ.2.1 501261 m 0)], τ, cs, sl)
    refine w_iast (k := 61) rfl ((hM.2 10 (by decide)).1) ((hM.2 10 (by decide)).2) rfl (show vp_in (nI (64 * p + i)) 256 from vp_in_nI (n := 64 * p + i) (by omega) (by decide)) ?_
    show WG _ _ _ _ _ _ _ (140, [(2, vI (nI i)), (0, vR (some m)), (1, vI (nI p))], [], sI τ 610000 (A 10) ((nI (64 * p + i)).toNatClampNeg) 0, cs, sl)
    rw [show (nI (64 * p + i) : Int32).toNatClampNeg = 64 * p + i from nI_clamp (n := 64 * p + i) (by omega)]
    refine w_run 2 (S' := (122, [(2, vI ((nI i) + 1)), (0, vR (some m)), (1, vI (nI p))], [], sI τ 610000 (A 10) (64 * p + i) 0, cs, sl)) rfl ?_
    rw [show ((nI i) + 1 : Int32) = nI (i + 1) from by simp only [nl0, nl1, nl2, nl3, nl4, nl5, nl6, nl8, nl9, nl10, nl12, nl15, nl16, nl20, nl24, nl32, nl40, nl64, nl65, nl384, pk_mul, nI_add]]
    show WG _ _ _ _ _ _ _ (122, [(2, vI (nI (i + 1))), (0, vR (some m)), (1, vI (nI p))], [], sI τ 610000 (A 10) (64 * p + i) 0, cs, sl)
    exact ih (i + 1) (by omega) (sI τ 610000 (A 10) (64 * p + i) 0) (hM) (fun τ' e9 q90 => K τ' (by rw [itF_succ, ← (show ((sI τ 610000 (A 10) (64 * p + i) 0) : Sg) = (bf3 A p) i τ from by simp [bf3, c1, nc1])]; exact e9) q90)
set_option maxRecDepth 20000 in
set_option maxHeartbeats 4000000 in
theorem c_mo_born1 (l : Launch) (E : FE) (d : Nat) (σ : Sg) (m : Nat) (A : Nat → Nat) (p : Nat) (hd : 3 ≤ d) (hM : MO σ m A) (hp : p < 4) (hal : σ.1 510000 (A 0) p = 0) : CT l E d 78 [vR (some m), vI (nI p)] σ 0 0 (fun r σ' => r = none ∧ σ' = brnS σ m A p) (fun _ _ => False) := by
  refine CTo ok_mo_born (by decide +kernel) rfl rfl rfl ?_
  refine w_run 2 (S' := (2, [(0, vR (some m)), (1, vI (nI p))], [vI (nI p), vR (some m)], σ, 0, 0)) rfl ?_
  refine w_if_lt rfl (fun c1 => (absurd ((nI_ltI (a := p) (b := 0) (by omega) (by omega)).mp c1) (by omega))) (fun c1 => ?_)
  have nc1 := mt (nI_ltI (a := p) (b := 0) (by omega) (by omega)).mpr c1
  refine w_run 2 (S' := (7, [(0, vR (some m)), (1, vI (nI p))], [vI 3, vI (nI p), vR (some m)], σ, 0, 0)) rfl ?_
  refine w_ic_le rfl (fun c2 => ?_) (fun c2 => (absurd ((nI_leI (a := p) (b := 3) (by omega) (by omega)).mpr (by omega)) c2))
  have nc2 := (nI_leI (a := p) (b := 3) (by omega) (by omega)).mp c2
  refine w_run 1 (S' := (15, [(0, vR (some m)), (1, vI (nI p))], [vR (some m), vR (some m)], σ, 0, 0)) rfl ?_
  refine w_get (k := 50) (vR (σ.2.1 500151 m 0)) rfl rfl rfl hM.1 rfl rfl ?_
  refine w_run 1 (S' := (19, [(0, vR (some m)), (1, vI (nI p))], [vI (nI p), vR (σ.2.1 500151 m 0), vR (some m)], σ, 0, 0)) rfl ?_
  refine w_zald (k := 51) rfl ((hM.2 0 (by decide)).1) ((hM.2 0 (by decide)).2) rfl (show vp_in (nI p) 4 from vp_in_nI (n := p) (by omega) (by decide)) ?_
  show WG _ _ _ _ _ _ _ (20, [(0, vR (some m)), (1, vI (nI p))], [vI (σ.1 510000 (A 0) (nI p).toNatClampNeg), vR (some m)], σ, 0, 0)
  rw [show (nI p : Int32).toNatClampNeg = p from nI_clamp (n := p) (by omega)]
  show WG _ _ _ _ _ _ _ (20, [(0, vR (some m)), (1, vI (nI p))], [vI (σ.1 510000 (A 0) p), vR (some m)], σ, 0, 0)
  refine w_if_eq rfl (fun c3 => ?_) (fun c3 => (absurd hal c3))
  refine w_run 1 (S' := (28, [(0, vR (some m)), (1, vI (nI p))], [vI 0, vR (some m)], σ, 0, 0)) rfl ?_
  refine w_puti (k := 50) rfl rfl rfl hM.1 rfl rfl (Or.inl rfl) (Or.inl rfl) ?_
  show WG _ _ _ _ _ _ _ (31, [(0, vR (some m)), (1, vI (nI p))], [], sI σ 500000 m 0 0, 0, 0)
  refine w_run 1 (S' := (32, [(0, vR (some m)), (1, vI (nI p))], [vR (some m)], sI σ 500000 m 0 0, 0, 0)) rfl ?_
  refine w_get (k := 50) (vI 0) rfl rfl rfl hM.1 rfl (by simp [mkF, sI, sO, sN, sA]) ?_
  refine w_if_le rfl (fun c4 => ?_) (fun c4 => (absurd ((nI_leI (a := 0) (b := 0) (by omega) (by omega)).mpr (by omega)) c4))
  have nc4 := (nI_leI (a := 0) (b := 0) (by omega) (by omega)).mp c4
  refine w_run 1 (S' := (40, [(0, vR (some m)), (1, vI (nI p))], [vR (some m)], sI σ 500000 m 0 0, 0, 0)) rfl ?_
  refine w_get (k := 50) (vR (σ.2.1 500151 m 0)) rfl rfl rfl hM.1 rfl rfl ?_
  refine w_run 2 (S' := (45, [(0, vR (some m)), (1, vI (nI p))], [vI 1, vI (nI p), vR (σ.2.1 500151 m 0)], sI σ 500000 m 0 0, 0, 0)) rfl ?_
  refine w_zast (k := 51) rfl ((hM.2 0 (by decide)).1) ((hM.2 0 (by decide)).2) rfl (show vp_in (nI p) 4 from vp_in_nI (n := p) (by omega) (by decide)) (Or.inr rfl) ?_
  show WG _ _ _ _ _ _ _ (46, [(0, vR (some m)), (1, vI (nI p))], [], sI (sI σ 500000 m 0 0) 510000 (A 0) ((nI p).toNatClampNeg) 1, 0, 0)
  rw [show (nI p : Int32).toNatClampNeg = p from nI_clamp (n := p) (by omega)]
  refine w_run 1 (S' := (47, [(0, vR (some m)), (1, vI (nI p))], [vR (some m)], sI (sI σ 500000 m 0 0) 510000 (A 0) p 1, 0, 0)) rfl ?_
  refine w_get (k := 50) (vR (σ.2.1 500252 m 0)) rfl rfl rfl hM.1 rfl rfl ?_
  refine w_run 2 (S' := (52, [(0, vR (some m)), (1, vI (nI p))], [vI (nI p), vR (σ.2.1 500252 m 0), vI (nI p), vR (σ.2.1 500252 m 0)], sI (sI σ 500000 m 0 0) 510000 (A 0) p 1, 0, 0)) rfl ?_
  refine w_iald (k := 52) rfl ((hM.2 1 (by decide)).1) ((hM.2 1 (by decide)).2) rfl (show vp_in (nI p) 4 from vp_in_nI (n := p) (by omega) (by decide)) ?_
  show WG _ _ _ _ _ _ _ (53, [(0, vR (some m)), (1, vI (nI p))], [vI ((sI (sI σ 500000 m 0 0) 510000 (A 0) p 1).1 520000 (A 1) (nI p).toNatClampNeg), vI (nI p), vR (σ.2.1 500252 m 0)], sI (sI σ 500000 m 0 0) 510000 (A 0) p 1, 0, 0)
  rw [show (nI p : Int32).toNatClampNeg = p from nI_clamp (n := p) (by omega)]
  show WG _ _ _ _ _ _ _ (53, [(0, vR (some m)), (1, vI (nI p))], [vI (σ.1 520000 (A 1) p), vI (nI p), vR (σ.2.1 500252 m 0)], sI (sI σ 500000 m 0 0) 510000 (A 0) p 1, 0, 0)
  refine w_run 2 (S' := (55, [(0, vR (some m)), (1, vI (nI p))], [vI ((σ.1 520000 (A 1) p) + 1), vI (nI p), vR (σ.2.1 500252 m 0)], sI (sI σ 500000 m 0 0) 510000 (A 0) p 1, 0, 0)) rfl ?_
  refine w_iast (k := 52) rfl ((hM.2 1 (by decide)).1) ((hM.2 1 (by decide)).2) rfl (show vp_in (nI p) 4 from vp_in_nI (n := p) (by omega) (by decide)) ?_
  show WG _ _ _ _ _ _ _ (56, [(0, vR (some m)), (1, vI (nI p))], [], sI (sI (sI σ 500000 m 0 0) 510000 (A 0) p 1) 520000 (A 1) ((nI p).toNatClampNeg) ((σ.1 520000 (A 1) p) + 1), 0, 0)
  rw [show (nI p : Int32).toNatClampNeg = p from nI_clamp (n := p) (by omega)]
  refine w_run 2 (S' := (58, [(2, vI 0), (0, vR (some m)), (1, vI (nI p))], [], sI (sI (sI σ 500000 m 0 0) 510000 (A 0) p 1) 520000 (A 1) p ((σ.1 520000 (A 1) p) + 1), 0, 0)) rfl ?_
  refine lk_mo_born1 l E d σ m A p hp (by omega) (by omega) 10 0 (by omega) (sI (sI (sI σ 500000 m 0 0) 510000 (A 0) p 1) 520000 (A 1) p ((σ.1 520000 (A 1) p) + 1)) hM (fun τ1 e5 hM1 => ?_)
  show WG _ _ _ _ _ _ _ (82, [(0, vR (some m)), (1, vI (nI p))], [], τ1, 0, 0)
  refine w_run 2 (S' := (84, [(2, vI 0), (0, vR (some m)), (1, vI (nI p))], [], τ1, 0, 0)) rfl ?_
  refine lk_mo_born2 l E d σ m A p hp (by omega) (by omega) 16 0 (by omega) (τ1) hM1 (fun τ2 e6 hM2 => ?_)
  show WG _ _ _ _ _ _ _ (120, [(0, vR (some m)), (1, vI (nI p))], [], τ2, 0, 0)
  refine w_run 2 (S' := (122, [(2, vI 0), (0, vR (some m)), (1, vI (nI p))], [], τ2, 0, 0)) rfl ?_
  refine lk_mo_born3 l E d σ m A p hp (by omega) (by omega) 64 0 (by omega) (τ2) hM2 (fun τ3 e7 hM3 => ?_)
  show WG _ _ _ _ _ _ _ (146, [(0, vR (some m)), (1, vI (nI p))], [], τ3, 0, 0)
  refine w_run 1 (S' := (147, [(0, vR (some m)), (1, vI (nI p))], [vR (some m)], τ3, 0, 0)) rfl ?_
  refine w_get (k := 50) (vR (τ3.2.1 500857 m 0)) rfl rfl rfl hM3.1 rfl rfl ?_
  refine w_run 2 (S' := (152, [(0, vR (some m)), (1, vI (nI p))], [vI 0, vI (nI p), vR (τ3.2.1 500857 m 0)], τ3, 0, 0)) rfl ?_
  refine w_iast (k := 57) rfl ((hM3.2 6 (by decide)).1) ((hM3.2 6 (by decide)).2) rfl (show vp_in (nI p) 4 from vp_in_nI (n := p) (by omega) (by decide)) ?_
  show WG _ _ _ _ _ _ _ (153, [(0, vR (some m)), (1, vI (nI p))], [], sI τ3 570000 (A 6) ((nI p).toNatClampNeg) 0, 0, 0)
  rw [show (nI p : Int32).toNatClampNeg = p from nI_clamp (n := p) (by omega)]
  refine w_run 1 (S' := (154, [(0, vR (some m)), (1, vI (nI p))], [vR (some m)], sI τ3 570000 (A 6) p 0, 0, 0)) rfl ?_
  refine w_get (k := 50) (vR (τ3.2.1 500958 m 0)) rfl rfl rfl hM3.1 rfl rfl ?_
  refine w_run 2 (S' := (159, [(0, vR (some m)), (1, vI (nI p))], [vI 0, vI (nI p), vR (τ3.2.1 500958 m 0)], sI τ3 570000 (A 6) p 0, 0, 0)) rfl ?_
  refine w_iast (k := 58) rfl ((hM3.2 7 (by decide)).1) ((hM3.2 7 (by decide)).2) rfl (show vp_in (nI p) 4 from vp_in_nI (n := p) (by omega) (by decide)) ?_
  show WG _ _ _ _ _ _ _ (160, [(0, vR (some m)), (1, vI (nI p))], [], sI (sI τ3 570000 (A 6) p 0) 580000 (A 7) ((nI p).toNatClampNeg) 0, 0, 0)
  rw [show (nI p : Int32).toNatClampNeg = p from nI_clamp (n := p) (by omega)]
  refine w_run 1 (S' := (161, [(0, vR (some m)), (1, vI (nI p))], [vR (some m)], sI (sI τ3 570000 (A 6) p 0) 580000 (A 7) p 0, 0, 0)) rfl ?_
  refine w_get (k := 50) (vR (τ3.2.1 502472 m 0)) rfl rfl rfl hM3.1 rfl rfl ?_
  refine w_run 2 (S' := (166, [(0, vR (some m)), (1, vI (nI p))], [vI 0, vI (nI p), vR (τ3.2.1 502472 m 0)], sI (sI τ3 570000 (A 6) p 0) 580000 (A 7) p 0, 0, 0)) rfl ?_
  refine w_iast (k := 72) rfl ((hM3.2 21 (by decide)).1) ((hM3.2 21 (by decide)).2) rfl (show vp_in (nI p) 4 from vp_in_nI (n := p) (by omega) (by decide)) ?_
  show WG _ _ _ _ _ _ _ (167, [(0, vR (some m)), (1, vI (nI p))], [], sI (sI (sI τ3 570000 (A 6) p 0) 580000 (A 7) p 0) 720000 (A 21) ((nI p).toNatClampNeg) 0, 0, 0)
  rw [show (nI p : Int32).toNatClampNeg = p from nI_clamp (n := p) (by omega)]
  refine w_run 1 (S' := (168, [(0, vR (some m)), (1, vI (nI p))], [vR (some m)], sI (sI (sI τ3 570000 (A 6) p 0) 580000 (A 7) p 0) 720000 (A 21) p 0, 0, 0)) rfl ?_
  refine w_get (k := 50) (vR (τ3.2.1 502674 m 0)) rfl rfl rfl hM3.1 rfl rfl ?_
  refine w_run 2 (S' := (173, [(0, vR (some m)), (1, vI (nI p))], [vI 0, vI (nI p), vR (τ3.2.1 502674 m 0)], sI (sI (sI τ3 570000 (A 6) p 0) 580000 (A 7) p 0) 720000 (A 21) p 0, 0, 0)) rfl ?_
  refine w_iast (k := 74) rfl ((hM3.2 23 (by decide)).1) ((hM3.2 23 (by decide)).2) rfl (show vp_in (nI p) 4 from vp_in_nI (n := p) (by omega) (by decide)) ?_
  show WG _ _ _ _ _ _ _ (174, [(0, vR (some m)), (1, vI (nI p))], [], sI (sI (sI (sI τ3 570000 (A 6) p 0) 580000 (A 7) p 0) 720000 (A 21) p 0) 740000 (A 23) ((nI p).toNatClampNeg) 0, 0, 0)
  rw [show (nI p : Int32).toNatClampNeg = p from nI_clamp (n := p) (by omega)]
  refine w_run 1 (S' := (175, [(0, vR (some m)), (1, vI (nI p))], [vR (some m)], sI (sI (sI (sI τ3 570000 (A 6) p 0) 580000 (A 7) p 0) 720000 (A 21) p 0) 740000 (A 23) p 0, 0, 0)) rfl ?_
  refine w_get (k := 50) (vR (τ3.2.1 502977 m 0)) rfl rfl rfl hM3.1 rfl rfl ?_
  refine w_run 2 (S' := (180, [(0, vR (some m)), (1, vI (nI p))], [vI 0, vI (nI p), vR (τ3.2.1 502977 m 0)], sI (sI (sI (sI τ3 570000 (A 6) p 0) 580000 (A 7) p 0) 720000 (A 21) p 0) 740000 (A 23) p 0, 0, 0)) rfl ?_
  refine w_zast (k := 77) rfl ((hM3.2 26 (by decide)).1) ((hM3.2 26 (by decide)).2) rfl (show vp_in (nI p) 4 from vp_in_nI (n := p) (by omega) (by decide)) (Or.inl rfl) ?_
  show WG _ _ _ _ _ _ _ (181, [(0, vR (some m)), (1, vI (nI p))], [], sI (sI (sI (sI (sI τ3 570000 (A 6) p 0) 580000 (A 7) p 0) 720000 (A 21) p 0) 740000 (A 23) p 0) 770000 (A 26) ((nI p).toNatClampNeg) 0, 0, 0)
  rw [show (nI p : Int32).toNatClampNeg = p from nI_clamp (n := p) (by omega)]
  refine w_run 1 (S' := (182, [(0, vR (some m)), (1, vI (nI p))], [vR (some m)], sI (sI (sI (sI (sI τ3 570000 (A 6) p 0) 580000 (A 7) p 0) 720000 (A 21) p 0) 740000 (A 23) p 0) 770000 (A 26) p 0, 0, 0)) rfl ?_
  refine w_get (k := 50) (vR (τ3.2.1 503078 m 0)) rfl rfl rfl hM3.1 rfl rfl ?_
  refine w_run 2 (S' := (187, [(0, vR (some m)), (1, vI (nI p))], [vI 0, vI (nI p), vR (τ3.2.1 503078 m 0)], sI (sI (sI (sI (sI τ3 570000 (A 6) p 0) 580000 (A 7) p 0) 720000 (A 21) p 0) 740000 (A 23) p 0) 770000 (A 26) p 0, 0, 0)) rfl ?_
  refine w_iast (k := 78) rfl ((hM3.2 27 (by decide)).1) ((hM3.2 27 (by decide)).2) rfl (show vp_in (nI p) 4 from vp_in_nI (n := p) (by omega) (by decide)) ?_
  show WG _ _ _ _ _ _ _ (188, [(0, vR (some m)), (1, vI (nI p))], [], sI (sI (sI (sI (sI (sI τ3 570000 (A 6) p 0) 580000 (A 7) p 0) 720000 (A 21) p 0) 740000 (A 23) p 0) 770000 (A 26) p 0) 780000 (A 27) ((nI p).toNatClampNeg) 0, 0, 0)
  rw [show (nI p : Int32).toNatClampNeg = p from nI_clamp (n := p) (by omega)]
  refine w_run 1 (S' := (189, [(0, vR (some m)), (1, vI (nI p))], [vR (some m)], sI (sI (sI (sI (sI (sI τ3 570000 (A 6) p 0) 580000 (A 7) p 0) 720000 (A 21) p 0) 740000 (A 23) p 0) 770000 (A 26) p 0) 780000 (A 27) p 0, 0, 0)) rfl ?_
  refine w_get (k := 50) (vR (τ3.2.1 503381 m 0)) rfl rfl rfl hM3.1 rfl rfl ?_
  refine w_run 4 (S' := (196, [(0, vR (some m)), (1, vI (nI p))], [vI 0, vI (5 * (nI p)), vR (τ3.2.1 503381 m 0)], sI (sI (sI (sI (sI (sI τ3 570000 (A 6) p 0) 580000 (A 7) p 0) 720000 (A 21) p 0) 740000 (A 23) p 0) 770000 (A 26) p 0) 780000 (A 27) p 0, 0, 0)) rfl ?_
  rw [show (5 * (nI p) : Int32) = nI (5 * p) from by simp only [nl0, nl1, nl2, nl3, nl4, nl5, nl6, nl8, nl9, nl10, nl12, nl15, nl16, nl20, nl24, nl32, nl40, nl64, nl65, nl384, pk_mul, nI_add]]
  show WG _ _ _ _ _ _ _ (196, [(0, vR (some m)), (1, vI (nI p))], [vI 0, vI (nI (5 * p)), vR (τ3.2.1 503381 m 0)], sI (sI (sI (sI (sI (sI τ3 570000 (A 6) p 0) 580000 (A 7) p 0) 720000 (A 21) p 0) 740000 (A 23) p 0) 770000 (A 26) p 0) 780000 (A 27) p 0, 0, 0)
  refine w_iast (k := 81) rfl ((hM3.2 30 (by decide)).1) ((hM3.2 30 (by decide)).2) rfl (show vp_in (nI (5 * p)) 20 from vp_in_nI (n := 5 * p) (by omega) (by decide)) ?_
  show WG _ _ _ _ _ _ _ (197, [(0, vR (some m)), (1, vI (nI p))], [], sI (sI (sI (sI (sI (sI (sI τ3 570000 (A 6) p 0) 580000 (A 7) p 0) 720000 (A 21) p 0) 740000 (A 23) p 0) 770000 (A 26) p 0) 780000 (A 27) p 0) 810000 (A 30) ((nI (5 * p)).toNatClampNeg) 0, 0, 0)
  rw [show (nI (5 * p) : Int32).toNatClampNeg = 5 * p from nI_clamp (n := 5 * p) (by omega)]
  refine w_run 1 (S' := (198, [(0, vR (some m)), (1, vI (nI p))], [vR (some m)], sI (sI (sI (sI (sI (sI (sI τ3 570000 (A 6) p 0) 580000 (A 7) p 0) 720000 (A 21) p 0) 740000 (A 23) p 0) 770000 (A 26) p 0) 780000 (A 27) p 0) 810000 (A 30) (5 * p) 0, 0, 0)) rfl ?_
  refine w_get (k := 50) (vR (τ3.2.1 503381 m 0)) rfl rfl rfl hM3.1 rfl rfl ?_
  refine w_run 6 (S' := (207, [(0, vR (some m)), (1, vI (nI p))], [vI (-1), vI ((5 * (nI p)) + 1), vR (τ3.2.1 503381 m 0)], sI (sI (sI (sI (sI (sI (sI τ3 570000 (A 6) p 0) 580000 (A 7) p 0) 720000 (A 21) p 0) 740000 (A 23) p 0) 770000 (A 26) p 0) 780000 (A 27) p 0) 810000 (A 30) (5 * p) 0, 0, 0)) rfl ?_
  rw [show ((5 * (nI p)) + 1 : Int32) = nI (5 * p + 1) from by simp only [nl0, nl1, nl2, nl3, nl4, nl5, nl6, nl8, nl9, nl10, nl12, nl15, nl16, nl20, nl24, nl32, nl40, nl64, nl65, nl384, pk_mul, nI_add]]
  show WG _ _ _ _ _ _ _ (207, [(0, vR (some m)), (1, vI (nI p))], [vI (-1), vI (nI (5 * p + 1)), vR (τ3.2.1 503381 m 0)], sI (sI (sI (sI (sI (sI (sI τ3 570000 (A 6) p 0) 580000 (A 7) p 0) 720000 (A 21) p 0) 740000 (A 23) p 0) 770000 (A 26) p 0) 780000 (A 27) p 0) 810000 (A 30) (5 * p) 0, 0, 0)
  refine w_iast (k := 81) rfl ((hM3.2 30 (by decide)).1) ((hM3.2 30 (by decide)).2) rfl (show vp_in (nI (5 * p + 1)) 20 from vp_in_nI (n := 5 * p + 1) (by omega) (by decide)) ?_
  show WG _ _ _ _ _ _ _ (208, [(0, vR (some m)), (1, vI (nI p))], [], sI (sI (sI (sI (sI (sI (sI (sI τ3 570000 (A 6) p 0) 580000 (A 7) p 0) 720000 (A 21) p 0) 740000 (A 23) p 0) 770000 (A 26) p 0) 780000 (A 27) p 0) 810000 (A 30) (5 * p) 0) 810000 (A 30) ((nI (5 * p + 1)).toNatClampNeg) (-1), 0, 0)
  rw [show (nI (5 * p + 1) : Int32).toNatClampNeg = 5 * p + 1 from nI_clamp (n := 5 * p + 1) (by omega)]
  refine w_run 1 (S' := (209, [(0, vR (some m)), (1, vI (nI p))], [vR (some m)], sI (sI (sI (sI (sI (sI (sI (sI τ3 570000 (A 6) p 0) 580000 (A 7) p 0) 720000 (A 21) p 0) 740000 (A 23) p 0) 770000 (A 26) p 0) 780000 (A 27) p 0) 810000 (A 30) (5 * p) 0) 810000 (A 30) (5 * p + 1) (-1), 0, 0)) rfl ?_
  refine w_get (k := 50) (vR (τ3.2.1 503381 m 0)) rfl rfl rfl hM3.1 rfl rfl ?_
  refine w_run 6 (S' := (218, [(0, vR (some m)), (1, vI (nI p))], [vI (-1), vI ((5 * (nI p)) + 2), vR (τ3.2.1 503381 m 0)], sI (sI (sI (sI (sI (sI (sI (sI τ3 570000 (A 6) p 0) 580000 (A 7) p 0) 720000 (A 21) p 0) 740000 (A 23) p 0) 770000 (A 26) p 0) 780000 (A 27) p 0) 810000 (A 30) (5 * p) 0) 810000 (A 30) (5 * p + 1) (-1), 0, 0)) rfl ?_
  rw [show ((5 * (nI p)) + 2 : Int32) = nI (5 * p + 2) from by simp only [nl0, nl1, nl2, nl3, nl4, nl5, nl6, nl8, nl9, nl10, nl12, nl15, nl16, nl20, nl24, nl32, nl40, nl64, nl65, nl384, pk_mul, nI_add]]
  show WG _ _ _ _ _ _ _ (218, [(0, vR (some m)), (1, vI (nI p))], [vI (-1), vI (nI (5 * p + 2)), vR (τ3.2.1 503381 m 0)], sI (sI (sI (sI (sI (sI (sI (sI τ3 570000 (A 6) p 0) 580000 (A 7) p 0) 720000 (A 21) p 0) 740000 (A 23) p 0) 770000 (A 26) p 0) 780000 (A 27) p 0) 810000 (A 30) (5 * p) 0) 810000 (A 30) (5 * p + 1) (-1), 0, 0)
  refine w_iast (k := 81) rfl ((hM3.2 30 (by decide)).1) ((hM3.2 30 (by decide)).2) rfl (show vp_in (nI (5 * p + 2)) 20 from vp_in_nI (n := 5 * p + 2) (by omega) (by decide)) ?_
  show WG _ _ _ _ _ _ _ (219, [(0, vR (some m)), (1, vI (nI p))], [], sI (sI (sI (sI (sI (sI (sI (sI (sI τ3 570000 (A 6) p 0) 580000 (A 7) p 0) 720000 (A 21) p 0) 740000 (A 23) p 0) 770000 (A 26) p 0) 780000 (A 27) p 0) 810000 (A 30) (5 * p) 0) 810000 (A 30) (5 * p + 1) (-1)) 810000 (A 30) ((nI (5 * p + 2)).toNatClampNeg) (-1), 0, 0)
  rw [show (nI (5 * p + 2) : Int32).toNatClampNeg = 5 * p + 2 from nI_clamp (n := 5 * p + 2) (by omega)]
  refine w_run 1 (S' := (220, [(0, vR (some m)), (1, vI (nI p))], [vR (some m)], sI (sI (sI (sI (sI (sI (sI (sI (sI τ3 570000 (A 6) p 0) 580000 (A 7) p 0) 720000 (A 21) p 0) 740000 (A 23) p 0) 770000 (A 26) p 0) 780000 (A 27) p 0) 810000 (A 30) (5 * p) 0) 810000 (A 30) (5 * p + 1) (-1)) 810000 (A 30) (5 * p + 2) (-1), 0, 0)) rfl ?_
  refine w_get (k := 50) (vR (τ3.2.1 503381 m 0)) rfl rfl rfl hM3.1 rfl rfl ?_
  refine w_run 6 (S' := (229, [(0, vR (some m)), (1, vI (nI p))], [vI (-1), vI ((5 * (nI p)) + 3), vR (τ3.2.1 503381 m 0)], sI (sI (sI (sI (sI (sI (sI (sI (sI τ3 570000 (A 6) p 0) 580000 (A 7) p 0) 720000 (A 21) p 0) 740000 (A 23) p 0) 770000 (A 26) p 0) 780000 (A 27) p 0) 810000 (A 30) (5 * p) 0) 810000 (A 30) (5 * p + 1) (-1)) 810000 (A 30) (5 * p + 2) (-1), 0, 0)) rfl ?_
  rw [show ((5 * (nI p)) + 3 : Int32) = nI (5 * p + 3) from by simp only [nl0, nl1, nl2, nl3, nl4, nl5, nl6, nl8, nl9, nl10, nl12, nl15, nl16, nl20, nl24, nl32, nl40, nl64, nl65, nl384, pk_mul, nI_add]]
  show WG _ _ _ _ _ _ _ (229, [(0, vR (some m)), (1, vI (nI p))], [vI (-1), vI (nI (5 * p + 3)), vR (τ3.2.1 503381 m 0)], sI (sI (sI (sI (sI (sI (sI (sI (sI τ3 570000 (A 6) p 0) 580000 (A 7) p 0) 720000 (A 21) p 0) 740000 (A 23) p 0) 770000 (A 26) p 0) 780000 (A 27) p 0) 810000 (A 30) (5 * p) 0) 810000 (A 30) (5 * p + 1) (-1)) 810000 (A 30) (5 * p + 2) (-1), 0, 0)
  refine w_iast (k := 81) rfl ((hM3.2 30 (by decide)).1) ((hM3.2 30 (by decide)).2) rfl (show vp_in (nI (5 * p + 3)) 20 from vp_in_nI (n := 5 * p + 3) (by omega) (by decide)) ?_
  show WG _ _ _ _ _ _ _ (230, [(0, vR (some m)), (1, vI (nI p))], [], sI (sI (sI (sI (sI (sI (sI (sI (sI (sI τ3 570000 (A 6) p 0) 580000 (A 7) p 0) 720000 (A 21) p 0) 740000 (A 23) p 0) 770000 (A 26) p 0) 780000 (A 27) p 0) 810000 (A 30) (5 * p) 0) 810000 (A 30) (5 * p + 1) (-1)) 810000 (A 30) (5 * p + 2) (-1)) 810000 (A 30) ((nI (5 * p + 3)).toNatClampNeg) (-1), 0, 0)
  rw [show (nI (5 * p + 3) : Int32).toNatClampNeg = 5 * p + 3 from nI_clamp (n := 5 * p + 3) (by omega)]
  refine w_run 1 (S' := (231, [(0, vR (some m)), (1, vI (nI p))], [vR (some m)], sI (sI (sI (sI (sI (sI (sI (sI (sI (sI τ3 570000 (A 6) p 0) 580000 (A 7) p 0) 720000 (A 21) p 0) 740000 (A 23) p 0) 770000 (A 26) p 0) 780000 (A 27) p 0) 810000 (A 30) (5 * p) 0) 810000 (A 30) (5 * p + 1) (-1)) 810000 (A 30) (5 * p + 2) (-1)) 810000 (A 30) (5 * p + 3) (-1), 0, 0)) rfl ?_
  refine w_get (k := 50) (vR (τ3.2.1 503381 m 0)) rfl rfl rfl hM3.1 rfl rfl ?_
  refine w_run 6 (S' := (240, [(0, vR (some m)), (1, vI (nI p))], [vI 0, vI ((5 * (nI p)) + 4), vR (τ3.2.1 503381 m 0)], sI (sI (sI (sI (sI (sI (sI (sI (sI (sI τ3 570000 (A 6) p 0) 580000 (A 7) p 0) 720000 (A 21) p 0) 740000 (A 23) p 0) 770000 (A 26) p 0) 780000 (A 27) p 0) 810000 (A 30) (5 * p) 0) 810000 (A 30) (5 * p + 1) (-1)) 810000 (A 30) (5 * p + 2) (-1)) 810000 (A 30) (5 * p + 3) (-1), 0, 0)) rfl ?_
  rw [show ((5 * (nI p)) + 4 : Int32) = nI (5 * p + 4) from by simp only [nl0, nl1, nl2, nl3, nl4, nl5, nl6, nl8, nl9, nl10, nl12, nl15, nl16, nl20, nl24, nl32, nl40, nl64, nl65, nl384, pk_mul, nI_add]]
  show WG _ _ _ _ _ _ _ (240, [(0, vR (some m)), (1, vI (nI p))], [vI 0, vI (nI (5 * p + 4)), vR (τ3.2.1 503381 m 0)], sI (sI (sI (sI (sI (sI (sI (sI (sI (sI τ3 570000 (A 6) p 0) 580000 (A 7) p 0) 720000 (A 21) p 0) 740000 (A 23) p 0) 770000 (A 26) p 0) 780000 (A 27) p 0) 810000 (A 30) (5 * p) 0) 810000 (A 30) (5 * p + 1) (-1)) 810000 (A 30) (5 * p + 2) (-1)) 810000 (A 30) (5 * p + 3) (-1), 0, 0)
  refine w_iast (k := 81) rfl ((hM3.2 30 (by decide)).1) ((hM3.2 30 (by decide)).2) rfl (show vp_in (nI (5 * p + 4)) 20 from vp_in_nI (n := 5 * p + 4) (by omega) (by decide)) ?_
  show WG _ _ _ _ _ _ _ (241, [(0, vR (some m)), (1, vI (nI p))], [], sI (sI (sI (sI (sI (sI (sI (sI (sI (sI (sI τ3 570000 (A 6) p 0) 580000 (A 7) p 0) 720000 (A 21) p 0) 740000 (A 23) p 0) 770000 (A 26) p 0) 780000 (A 27) p 0) 810000 (A 30) (5 * p) 0) 810000 (A 30) (5 * p + 1) (-1)) 810000 (A 30) (5 * p + 2) (-1)) 810000 (A 30) (5 * p + 3) (-1)) 810000 (A 30) ((nI (5 * p + 4)).toNatClampNeg) 0, 0, 0)
  rw [show (nI (5 * p + 4) : Int32).toNatClampNeg = 5 * p + 4 from nI_clamp (n := 5 * p + 4) (by omega)]
  exact w_vret rfl rfl (by omega) (by omega) (⟨rfl, by rw [brn_eq, ← e5, ← e6, ← e7]⟩)

set_option maxRecDepth 20000 in
set_option maxHeartbeats 4000000 in
theorem c_mo_born0 (l : Launch) (E : FE) (d : Nat) (σ : Sg) (m : Nat) (A : Nat → Nat) (p : Int32) (hd : 1 ≤ d) (hM : MO σ m A) (hab : ¬ bnT (σ.1 510000 (A 0)) p = 0) : CT l E d 78 [vR (some m), vI p] σ 0 0 (fun r σ' => r = none ∧ σ' = sI σ 500000 m 0 (bnT (σ.1 510000 (A 0)) p)) (fun _ _ => False) := by
  refine CTo ok_mo_born (by decide +kernel) rfl rfl rfl ?_
  refine w_run 2 (S' := (2, [(0, vR (some m)), (1, vI p)], [vI p, vR (some m)], σ, 0, 0)) rfl ?_
  refine w_if_lt rfl (fun c1 => ?_) (fun c1 => ?_)
  · refine w_run 2 (S' := (28, [(0, vR (some m)), (1, vI p)], [vI 1, vR (some m)], σ, 0, 0)) rfl ?_
    refine w_puti (k := 50) rfl rfl rfl hM.1 rfl rfl (Or.inl rfl) (Or.inl rfl) ?_
    show WG _ _ _ _ _ _ _ (31, [(0, vR (some m)), (1, vI p)], [], sI σ 500000 m 0 1, 0, 0)
    refine w_run 1 (S' := (32, [(0, vR (some m)), (1, vI p)], [vR (some m)], sI σ 500000 m 0 1, 0, 0)) rfl ?_
    refine w_get (k := 50) (vI 1) rfl rfl rfl hM.1 rfl (by simp [mkF, sI, sO, sN, sA]) ?_
    refine w_if_le rfl (fun c2 => (absurd ((nI_leI (a := 1) (b := 0) (by omega) (by omega)).mp c2) (by omega))) (fun c2 => ?_)
    have nc2 := mt (nI_leI (a := 1) (b := 0) (by omega) (by omega)).mpr c2
    exact w_vret rfl rfl (by omega) (by omega) (⟨rfl, by simp [bnT, c1]⟩)
  · refine w_run 2 (S' := (7, [(0, vR (some m)), (1, vI p)], [vI 3, vI p, vR (some m)], σ, 0, 0)) rfl ?_
    refine w_ic_le rfl (fun c3 => ?_) (fun c3 => ?_)
    · refine w_run 1 (S' := (15, [(0, vR (some m)), (1, vI p)], [vR (some m), vR (some m)], σ, 0, 0)) rfl ?_
      refine w_get (k := 50) (vR (σ.2.1 500151 m 0)) rfl rfl rfl hM.1 rfl rfl ?_
      refine w_run 1 (S' := (19, [(0, vR (some m)), (1, vI p)], [vI p, vR (σ.2.1 500151 m 0), vR (some m)], σ, 0, 0)) rfl ?_
      refine w_zald (k := 51) rfl ((hM.2 0 (by decide)).1) ((hM.2 0 (by decide)).2) rfl (show vp_in p 4 from in_lt (hi := 3) (by assumption) (by first | assumption | exact Int32.not_lt.mpr (by assumption)) (by decide) (by decide)) ?_
      show WG _ _ _ _ _ _ _ (20, [(0, vR (some m)), (1, vI p)], [vI (σ.1 510000 (A 0) p.toNatClampNeg), vR (some m)], σ, 0, 0)
      refine w_if_eq rfl (fun c4 => (absurd (by simp [bnT, c1, c3, c4]) hab)) (fun c4 => ?_)
      refine w_run 2 (S' := (28, [(0, vR (some m)), (1, vI p)], [vI 2, vR (some m)], σ, 0, 0)) rfl ?_
      refine w_puti (k := 50) rfl rfl rfl hM.1 rfl rfl (Or.inl rfl) (Or.inl rfl) ?_
      show WG _ _ _ _ _ _ _ (31, [(0, vR (some m)), (1, vI p)], [], sI σ 500000 m 0 2, 0, 0)
      refine w_run 1 (S' := (32, [(0, vR (some m)), (1, vI p)], [vR (some m)], sI σ 500000 m 0 2, 0, 0)) rfl ?_
      refine w_get (k := 50) (vI 2) rfl rfl rfl hM.1 rfl (by simp [mkF, sI, sO, sN, sA]) ?_
      refine w_if_le rfl (fun c5 => (absurd ((nI_leI (a := 2) (b := 0) (by omega) (by omega)).mp c5) (by omega))) (fun c5 => ?_)
      have nc5 := mt (nI_leI (a := 2) (b := 0) (by omega) (by omega)).mpr c5
      exact w_vret rfl rfl (by omega) (by omega) (⟨rfl, by simp [bnT, c1, c3, c4]⟩)
    · refine w_run 2 (S' := (28, [(0, vR (some m)), (1, vI p)], [vI 1, vR (some m)], σ, 0, 0)) rfl ?_
      refine w_puti (k := 50) rfl rfl rfl hM.1 rfl rfl (Or.inl rfl) (Or.inl rfl) ?_
      show WG _ _ _ _ _ _ _ (31, [(0, vR (some m)), (1, vI p)], [], sI σ 500000 m 0 1, 0, 0)
      refine w_run 1 (S' := (32, [(0, vR (some m)), (1, vI p)], [vR (some m)], sI σ 500000 m 0 1, 0, 0)) rfl ?_
      refine w_get (k := 50) (vI 1) rfl rfl rfl hM.1 rfl (by simp [mkF, sI, sO, sN, sA]) ?_
      refine w_if_le rfl (fun c6 => (absurd ((nI_leI (a := 1) (b := 0) (by omega) (by omega)).mp c6) (by omega))) (fun c6 => ?_)
      have nc6 := mt (nI_leI (a := 1) (b := 0) (by omega) (by omega)).mpr c6
      exact w_vret rfl rfl (by omega) (by omega) (⟨rfl, by simp [bnT, c1, c3]⟩)

