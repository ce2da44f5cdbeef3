/-! endWatchesOfTheDead -/
theorem nI_dec (n : Nat) : nI (n + 1) + (-1) = nI n := by
  rw [← nI_add, Int32.add_assoc, show nI 1 + (-1) = 0 from by decide, Int32.add_zero]
theorem er_mid {ks ws : List Nat} {w : Nat} : (ks ++ w :: ws).eraseIdx ks.length = ks ++ ws := by
  induction ks with
  | nil => rfl
  | cons a t ih => show a :: (t ++ w :: ws).eraseIdx t.length = _; rw [ih]; rfl
theorem ge_mid {ks ws : List Nat} {w : Nat} : (ks ++ w :: ws)[ks.length]? = some w := by
  induction ks with
  | nil => rfl
  | cons a t ih => show (t ++ w :: ws)[t.length]? = _; exact ih
section KPS
variable {E : FE} {D : Nat → Nat → Nat} {p : Nat} {L1 L2 L3 : Nat → List Nat} {AR1 AR2 AR3 : Nat → Nat} {σ : Sg}
theorem Kp.n {q k : Nat} (h : Kp E D p L1 L2 L3 AR1 AR2 AR3 σ) (hq : σ.2.2.2 q = 0) (hqe : q ≠ fe E) : Kp E D p L1 L2 L3 AR1 AR2 AR3 (sN σ q k) :=
  ⟨h.1.n hq, h.2.1.n h.1 hq, h.2.2.1.n (by decide) (by decide) hq hqe, h.2.2.2.1.n (by decide) (by decide) hq hqe, h.2.2.2.2.n (by decide) (by decide) hq hqe⟩
theorem Kp.oS {c a x b : Nat} (h : Kp E D p L1 L2 L3 AR1 AR2 AR3 σ) (hb : c % 100 ≠ 0 → σ.2.2.2 b = c % 100) (hc : c ∉ [200100, 410005, 210100, 420006, 220100, 430007]) (hs : ∀ j, j < 14 → (shc j).1 ≠ c) : Kp E D p L1 L2 L3 AR1 AR2 AR3 (sO σ c a x (some b)) := by
  simp only [List.mem_cons, List.not_mem_nil, or_false, not_or] at hc
  exact ⟨WF.oS h.1 hb, h.2.1.o hs, h.2.2.1.o hc.1 hc.2.1, h.2.2.2.1.o hc.2.2.1 hc.2.2.2.1, h.2.2.2.2.o hc.2.2.2.2.1 hc.2.2.2.2.2⟩
theorem Kp.wkN {q : Nat} {k c : Int32} (h : Kp E D p L1 L2 L3 AR1 AR2 AR3 σ) (hq : σ.2.2.2 q = 0) (hqe : q ≠ fe E) : Kp E D p L1 L2 L3 AR1 AR2 AR3 (wkS σ q k none c) :=
  (((h.n hq hqe).i (by decide)).oN (by decide) (by decide)).i (by decide)
theorem Kp.a20 {L1' : Nat → List Nat} {AR1' : Nat → Nat} {σ' : Sg} (h : Kp E D p L1 L2 L3 AR1 AR2 AR3 σ) (e : Eqk E 20 41 σ σ') (hl : LLx E 20 41 5 (fun p => D p 12) L1' AR1' σ') : Kp E D p L1' L2 L3 AR1' AR2 AR3 σ' :=
  ⟨e.2.2.2.2.2 h.1, h.2.1.eqk h.1 e (by decide) (by decide), hl, h.2.2.2.1.keep e (by decide) (by decide) (by decide) (by decide) (by decide) (by decide) (by decide), h.2.2.2.2.keep e (by decide) (by decide) (by decide) (by decide) (by decide) (by decide) (by decide)⟩
theorem Kp.a21 {L1' : Nat → List Nat} {AR1' : Nat → Nat} {σ' : Sg} (h : Kp E D p L1 L2 L3 AR1 AR2 AR3 σ) (e : Eqk E 21 42 σ σ') (hl : LLx E 21 42 6 (fun p => D p 13) L1' AR1' σ') : Kp E D p L1 L1' L3 AR1 AR1' AR3 σ' :=
  ⟨e.2.2.2.2.2 h.1, h.2.1.eqk h.1 e (by decide) (by decide), h.2.2.1.keep e (by decide) (by decide) (by decide) (by decide) (by decide) (by decide) (by decide), hl, h.2.2.2.2.keep e (by decide) (by decide) (by decide) (by decide) (by decide) (by decide) (by decide)⟩
theorem Kp.a22 {L1' : Nat → List Nat} {AR1' : Nat → Nat} {σ' : Sg} (h : Kp E D p L1 L2 L3 AR1 AR2 AR3 σ) (e : Eqk E 22 43 σ σ') (hl : LLx E 22 43 7 (fun p => D p 14) L1' AR1' σ') : Kp E D p L1 L2 L1' AR1 AR2 AR1' σ' :=
  ⟨e.2.2.2.2.2 h.1, h.2.1.eqk h.1 e (by decide) (by decide), h.2.2.1.keep e (by decide) (by decide) (by decide) (by decide) (by decide) (by decide) (by decide), h.2.2.2.1.keep e (by decide) (by decide) (by decide) (by decide) (by decide) (by decide) (by decide), hl⟩
end KPS
def ewP (E : FE) (D : Nat → Nat → Nat) (p : Nat) : List Nat → List Nat → (Nat → List Nat) → (Nat → List Nat) → Sg → (Nat → List Nat) → (Nat → List Nat) → Sg → Prop
  | _, [], L1, L3, σ, L1', L3', σ' => L1' = L1 ∧ L3' = L3 ∧ σ' = σ
  | ks, w :: ws, L1, L3, σ, L1', L3', σ' => ∃ n, σ.2.1 70003 w 0 = some n ∧ (if σ.1 30200 n 0 = 0 then ewP E D p (ks ++ [w]) ws L1 L3 σ L1' L3' σ' else ∃ s1 q s2 AR1 AR3, Eqk E 22 43 σ s1 ∧ LLx E 22 43 7 (fun p => D p 14) (upL L3 p (ks ++ ws)) AR3 s1 ∧ s1.2.2.2 q = 0 ∧ q ≠ fe E ∧ Eqk E 20 41 (wkS s1 q 4 none ((sN s1 q 5).1 70100 w 0)) s2 ∧ LLx E 20 41 5 (fun p => D p 12) (upL L1 p (L1 p ++ [q])) AR1 s2 ∧ ewP E D p ks ws (upL L1 p (L1 p ++ [q])) (upL L3 p (ks ++ ws)) s2 L1' L3' σ')
theorem ew_up {E : FE} {σ s1 s2 : Sg} {q w : Nat} {k c : Int32} (h1 : Eqk E 22 43 σ s1) (hq : s1.2.2.2 q = 0) (h2 : Eqk E 20 41 (wkS s1 q k none c) s2) (hw : σ.2.2.2 w = 7) : s2.2.1 70003 w 0 = σ.2.1 70003 w 0 ∧ s2.2.2.2 w = 7 := by
  have e1 := h1.1 w (by rw [hw]; decide)
  have nq : w ≠ q := fun e => by rw [e, hq] at e1; rw [← e] at e1; omega
  have e2 : (wkS s1 q k none c).2.2.2 w = 7 := by
    show (if w = q then 5 else s1.2.2.2 w) = 7
    rw [if_neg nq, e1, hw]
  refine ⟨?_, (h2.1 w (by rw [e2]; decide)).trans e2⟩
  rw [(h2.2.2.1 70003 w 0 (by rw [e2]; decide) (by decide) (by decide)).2, ← (h1.2.2.1 70003 w 0 (by rw [hw]; decide) (by decide) (by decide)).2]
  show (if (70003 = 50106 ∧ w = q ∧ 0 = 0) then none else (if w = q then none else s1.2.1 70003 w 0)) = _
  rw [if_neg (by omega), if_neg nq]
set_option maxRecDepth 20000 in
set_option maxHeartbeats 4000000 in
theorem lk_pr_ew (l : Launch) (E : FE) (d : Nat) (D : Nat → Nat → Nat) (p : Nat) (L2 : Nat → List Nat) (AR2 : Nat → Nat) (hd : 8 ≤ d) (hp : p < 4) {mc ms : Nat} {args : Array Value} {XX : State → Prop} {QF : State → List Frame → State → Prop} : ∀ (ws ks : List Nat) (τ : Sg) (L1 L3 : Nat → List Nat) (AR1 AR3 : Nat → Nat) (n cs sl : Nat), ws.length = n → L3 p = ks ++ ws → Kp E D p L1 L2 L3 AR1 AR2 AR3 τ → (L1 p).length + n < 128 → ks.length + n < 128 → cs + 2 * n ≤ mc → sl + 453 * n ≤ ms → (∀ w, w ∈ ws → ∃ a, τ.2.1 70003 w 0 = some a) →
    (∀ τ' L1' L3' AR1' AR3' cs' sl', cs' ≤ cs + 2 * n → sl' ≤ sl + 453 * n → ewP E D p ks ws L1 L3 τ L1' L3' τ' → Kp E D p L1' L2 L3' AR1' AR2 AR3' τ' → WG l E (RM d mc ms) 44 args XX QF (89, [(0, vR (some (D p 0)))], [], τ', cs', sl')) →
    WG l E (RM d mc ms) 44 args XX QF (10, [(2, vI (nI n)), (1, vI (nI ks.length)), (0, vR (some (D p 0)))], [], τ, cs, sl) := by
  intro ws
  induction ws with
  | nil =>
    intro ks τ L1 L3 AR1 AR3 n cs sl hn hL3 k0 hb1 hb2 hcs hsl hnd KK
    have hn0 : n = 0 := hn.symm
    subst hn0
    refine w_run 1 (S' := (11, [(2, vI (nI 0)), (1, vI (nI ks.length)), (0, vR (some (D p 0)))], [vI (nI 0)], τ, cs, sl)) rfl ?_
    rw [show (nI 0 : Int32) = nI (0) from by simp only [nl0, nl1, nl2, nl3, nl4, nl5, nl6, nl8, nl9, nl10, nl12, nl15, nl16, nl20, nl24, nl32, nl40, nl64, nl65, nl384, pk_mul, nI_add]]
    show WG _ _ _ _ _ _ _ (11, [(2, vI (nI 0)), (1, vI (nI ks.length)), (0, vR (some (D p 0)))], [vI (nI 0)], τ, cs, sl)
    refine w_if_le rfl (fun c1 => ?_) (fun c1 => (absurd ((nI_leI (a := 0) (b := 0) (by omega) (by omega)).mpr (by omega)) c1))
    have nc1 := (nI_leI (a := 0) (b := 0) (by omega) (by omega)).mp c1
    refine w_lsP [2] ?_
    show WG _ _ _ _ _ _ _ (89, [(0, vR (some (D p 0)))], [], τ, cs, sl)
    exact KK τ L1 L3 AR1 AR3 cs sl (by omega) (by omega) ⟨rfl, rfl, rfl⟩ k0
  | cons w9 ws ih =>
    intro ks τ L1 L3 AR1 AR3 n cs sl hn hL3 k0 hb1 hb2 hcs hsl hnd KK
    obtain ⟨n, rfl⟩ : ∃ j, n = j + 1 := ⟨ws.length, hn.symm⟩
    have hn' : ws.length = n := Nat.succ.inj hn
    have hlen : (L3 p).length = ks.length + (n + 1) := by rw [hL3, List.length_append, hn]
    have hg : (L3 p)[ks.length]? = some w9 := by rw [hL3]; exact ge_mid
    have hk9 : τ.2.2.2 w9 = 7 := k0.2.2.2.2.kd k0.1 (by decide) (by decide) hp hg
    obtain ⟨a9, ha9⟩ := hnd w9 List.mem_cons_self
    have hka : τ.2.2.2 a9 = 3 := k0.1 70003 w9 0 a9 ha9 (by decide)
    refine w_run 1 (S' := (11, [(2, vI (nI (n + 1))), (1, vI (nI ks.length)), (0, vR (some (D p 0)))], [vI (nI (n + 1))], τ, cs, sl)) rfl ?_
    refine w_if_le rfl (fun c1 => (absurd ((nI_leI (a := n + 1) (b := 0) (by omega) (by omega)).mp c1) (by omega))) (fun c1 => ?_)
    have nc1 := mt (nI_leI (a := n + 1) (b := 0) (by omega) (by omega)).mpr c1
    refine w_run 2 (S' := (16, [(2, vI (nI (n + 1))), (1, vI (nI ks.length)), (0, vR (some (D p 0)))], [vR (some (D p 0)), vI (nI ks.length)], τ, cs, sl)) rfl ?_
    refine w_get (k := 2) (vR (τ.2.1 20722 (D p 0) 0)) rfl rfl rfl k0.2.1.1 rfl rfl ?_
    refine Eq.mp (congrArg (fun x9 => WG _ _ _ _ _ _ _ (19, [(2, vI (nI (n + 1))), (1, vI (nI ks.length)), (0, vR (some (D p 0)))], [vR x9, vI (nI ks.length)], τ, cs, sl)) (Eq.symm (k0.2.1.2 6 (by decide)) : some (D p 14) = τ.2.1 20722 (D p 0) 0)) ?_
    show WG _ _ _ _ _ _ _ (19, [(2, vI (nI (n + 1))), (1, vI (nI ks.length)), (0, vR (some (D p 0)))], [vR (some (D p 14)), vI (nI ks.length)], τ, cs, sl)
    refine w_callV (st := [vI (nI ks.length)]) [] rfl ml_1_65 rfl rfl (k0.1 20722 (D p 0) 0 (D p 14) (k0.2.1.2 6 (by decide)) (by decide)) rfl rfl rfl (by simp only [RM]; omega) (by simp only [RM]; show 8 + (1 + 11) + _ ≤ _; omega) rfl (by simp only [RM]; omega) (by simp only [RM]; omega) (c_la_size_22 l E (d - 1) τ (fun p => D p 14) L3 AR3 k0.2.2.2.2 p hp) (fun _ _ h => h.elim) ?_
    intro r9 s9 q9
    rw [q9.1, q9.2]
    clear q9 r9 s9
    show WG _ _ _ _ _ _ _ (22, [(2, vI (nI (n + 1))), (1, vI (nI ks.length)), (0, vR (some (D p 0)))], [vI (nI (L3 p).length), vI (nI ks.length)], τ, cs, sl)
    refine w_ic_ge rfl (fun c2 => (absurd ((nI_leI (a := (L3 p).length) (b := ks.length) (by omega) (by omega)).mp c2) (by omega))) (fun c2 => ?_)
    have nc2 := mt (nI_leI (a := (L3 p).length) (b := ks.length) (by omega) (by omega)).mpr c2
    refine w_run 1 (S' := (26, [(2, vI (nI (n + 1))), (1, vI (nI ks.length)), (0, vR (some (D p 0)))], [vR (some (D p 0))], τ, cs, sl)) rfl ?_
    refine w_get (k := 2) (vR (τ.2.1 20722 (D p 0) 0)) rfl rfl rfl k0.2.1.1 rfl rfl ?_
    refine w_run 1 (S' := (30, [(2, vI (nI (n + 1))), (1, vI (nI ks.length)), (0, vR (some (D p 0)))], [vI (nI ks.length), vR (τ.2.1 20722 (D p 0) 0)], τ, cs, sl)) rfl ?_
    refine Eq.mp (congrArg (fun x9 => WG _ _ _ _ _ _ _ (30, [(2, vI (nI (n + 1))), (1, vI (nI ks.length)), (0, vR (some (D p 0)))], [vI (nI ks.length), vR x9], τ, cs, sl)) (Eq.symm (k0.2.1.2 6 (by decide)) : some (D p 14) = τ.2.1 20722 (D p 0) 0)) ?_
    show WG _ _ _ _ _ _ _ (30, [(2, vI (nI (n + 1))), (1, vI (nI ks.length)), (0, vR (some (D p 0)))], [vI (nI ks.length), vR (some (D p 14))], τ, cs, sl)
    refine w_callV (st := []) [vI (nI ks.length)] rfl ml_1_69 rfl rfl (k0.1 20722 (D p 0) 0 (D p 14) (k0.2.1.2 6 (by decide)) (by decide)) rfl rfl rfl (by simp only [RM]; omega) (by simp only [RM]; show 8 + (2 + 11) + _ ≤ _; omega) rfl (by simp only [RM]; omega) (by simp only [RM]; omega) (c_la_get_22 l E (d - 1) τ (fun p => D p 14) L3 AR3 k0.2.2.2.2 p hp ks.length w9 0 (by omega) hg) (fun _ _ h => h.elim) ?_
    intro r9 s9 q9
    rw [q9.1, q9.2]
    clear q9 r9 s9
    show WG _ _ _ _ _ _ _ (33, [(2, vI (nI (n + 1))), (1, vI (nI ks.length)), (0, vR (some (D p 0)))], [vR (some w9)], τ, cs, sl)
    refine w_cast (k := 7) rfl rfl (fun b9 h9 => by have e9 := (rfl : some w9 = some w9).symm.trans h9; cases e9; exact hk9) rfl ?_
    refine w_run 2 (S' := (38, [(3, vR (some w9)), (2, vI (nI (n + 1))), (1, vI (nI ks.length)), (0, vR (some (D p 0)))], [vR (some w9)], τ, cs, sl)) rfl ?_
    refine w_get (k := 7) (vR (τ.2.1 70003 w9 0)) rfl rfl rfl hk9 rfl rfl ?_
    refine w_get (k := 3) (vI (τ.1 30200 a9 0)) rfl rfl ha9 hka rfl rfl ?_
    refine w_if_eq rfl (fun c3 => ?_) (fun c3 => ?_)
    · refine w_run 3 (S' := (10, [(2, vI ((nI (n + 1)) + (-1))), (1, vI ((nI ks.length) + 1)), (3, vR (some w9)), (0, vR (some (D p 0)))], [], τ, cs, sl)) rfl ?_
      rw [show ((nI ks.length) + 1 : Int32) = nI (ks.length + 1) from by simp only [nl0, nl1, nl2, nl3, nl4, nl5, nl6, nl8, nl9, nl10, nl12, nl15, nl16, nl20, nl24, nl32, nl40, nl64, nl65, nl384, pk_mul, nI_add]]
      show WG _ _ _ _ _ _ _ (10, [(2, vI ((nI (n + 1)) + (-1))), (1, vI (nI (ks.length + 1))), (3, vR (some w9)), (0, vR (some (D p 0)))], [], τ, cs, sl)
      refine w_lsP [0, 1, 3] ?_
      show WG _ _ _ _ _ _ _ (10, [(2, vI ((nI (n + 1)) + (-1))), (1, vI (nI (ks.length + 1))), (0, vR (some (D p 0)))], [], τ, cs, sl)
      rw [show ((nI (n + 1)) + (-1) : Int32) = nI n from nI_dec n]
      rw [show (nI (ks.length + 1) : Int32) = nI (ks ++ [w9]).length from by rw [List.length_append]; rfl]
      exact ih (ks ++ [w9]) τ L1 L3 AR1 AR3 n cs sl hn' (by rw [hL3, List.append_assoc]; rfl) k0 (by omega) (by rw [List.length_append]; show ks.length + 1 + n < 128; omega) (by omega) (by omega) (fun w h => hnd w (List.mem_cons_of_mem _ h)) (fun τ' L1' L3' AR1' AR3' cs' sl' h1 h2 h3 h4 => KK τ' L1' L3' AR1' AR3' cs' sl' (by omega) (by omega) ⟨a9, ha9, by rw [if_pos c3]; exact h3⟩ h4)
    · refine w_run 1 (S' := (48, [(3, vR (some w9)), (2, vI (nI (n + 1))), (1, vI (nI ks.length)), (0, vR (some (D p 0)))], [vR (some (D p 0))], τ, cs, sl)) rfl ?_
      refine w_get (k := 2) (vR (τ.2.1 20722 (D p 0) 0)) rfl rfl rfl k0.2.1.1 rfl rfl ?_
      refine w_run 1 (S' := (52, [(3, vR (some w9)), (2, vI (nI (n + 1))), (1, vI (nI ks.length)), (0, vR (some (D p 0)))], [vI (nI ks.length), vR (τ.2.1 20722 (D p 0) 0)], τ, cs, sl)) rfl ?_
      refine Eq.mp (congrArg (fun x9 => WG _ _ _ _ _ _ _ (52, [(3, vR (some w9)), (2, vI (nI (n + 1))), (1, vI (nI ks.length)), (0, vR (some (D p 0)))], [vI (nI ks.length), vR x9], τ, cs, sl)) (Eq.symm (k0.2.1.2 6 (by decide)) : some (D p 14) = τ.2.1 20722 (D p 0) 0)) ?_
      show WG _ _ _ _ _ _ _ (52, [(3, vR (some w9)), (2, vI (nI (n + 1))), (1, vI (nI ks.length)), (0, vR (some (D p 0)))], [vI (nI ks.length), vR (some (D p 14))], τ, cs, sl)
      refine w_callV (st := []) [vI (nI ks.length)] rfl ml_1_178 rfl rfl (k0.1 20722 (D p 0) 0 (D p 14) (k0.2.1.2 6 (by decide)) (by decide)) rfl rfl rfl (by simp only [RM]; omega) (by simp only [RM]; show 8 + (4 + 11) + _ ≤ _; omega) rfl (by simp only [RM]; omega) (by simp only [RM]; omega) (c_la_remove_22 l E (d - 1) τ (fun p => D p 14) L3 AR3 k0.2.2.2.2 p hp ks.length w9 0 (by omega) hg) (fun _ _ h => h.elim) ?_
      intro r9 s1 q9
      obtain ⟨e1, h9, e9⟩ := q9
      subst e1
      rw [show (L3 p).eraseIdx ks.length = ks ++ ws from by rw [hL3]; exact er_mid] at h9
      have k1 := k0.a22 e9 h9
      have hk91 : s1.2.2.2 w9 = 7 := (e9.1 w9 (by rw [hk9]; decide)).trans hk9
      show WG _ _ _ _ _ _ _ (55, [(3, vR (some w9)), (2, vI (nI (n + 1))), (1, vI (nI ks.length)), (0, vR (some (D p 0)))], [vR (some w9)], s1, cs, sl)
      refine w_run 2 (S' := (57, [(3, vR (some w9)), (2, vI (nI (n + 1))), (1, vI (nI ks.length)), (0, vR (some (D p 0)))], [vR (some (D p 0))], s1, cs, sl)) rfl ?_
      refine w_get (k := 2) (vR (s1.2.1 20520 (D p 0) 0)) rfl rfl rfl k1.2.1.1 rfl rfl ?_
      refine w_new (k := 5) rfl rfl 5 rfl rfl (by simp only [RM]; omega) (by simp only [RM]; show _ + 3 ≤ _; omega) (fun q hq hqe => ?_)
      have hn_D_p_0 : D p 0 ≠ q := ne0 (k1.2.1.1) hq (by decide)
      have hk_D_p_0 : (sN s1 q 5).2.2.2 (D p 0) = 2 := by simp only [sN]; rw [if_neg hn_D_p_0]; exact k1.2.1.1
      have hn_D_p_1 : D p 1 ≠ q := ne0 ((k1.1 20111 (D p 0) 0 (D p 1) (k1.2.1.2 0 (by decide)) (by decide))) hq (by decide)
      have hk_D_p_1 : (sN s1 q 5).2.2.2 (D p 1) = 11 := by simp only [sN]; rw [if_neg hn_D_p_1]; exact (k1.1 20111 (D p 0) 0 (D p 1) (k1.2.1.2 0 (by decide)) (by decide))
      have hn_D_p_2 : D p 2 ≠ q := ne0 ((k1.1 20208 (D p 0) 0 (D p 2) (k1.2.1.2 1 (by decide)) (by decide))) hq (by decide)
      have hk_D_p_2 : (sN s1 q 5).2.2.2 (D p 2) = 8 := by simp only [sN]; rw [if_neg hn_D_p_2]; exact (k1.1 20208 (D p 0) 0 (D p 2) (k1.2.1.2 1 (by decide)) (by decide))
      have hn_D_p_6 : D p 6 ≠ q := ne0 ((k1.1 20309 (D p 0) 0 (D p 6) (k1.2.1.2 2 (by decide)) (by decide))) hq (by decide)
      have hk_D_p_6 : (sN s1 q 5).2.2.2 (D p 6) = 9 := by simp only [sN]; rw [if_neg hn_D_p_6]; exact (k1.1 20309 (D p 0) 0 (D p 6) (k1.2.1.2 2 (by decide)) (by decide))
      have hn_D_p_8 : D p 8 ≠ q := ne0 ((k1.1 20404 (D p 0) 0 (D p 8) (k1.2.1.2 3 (by decide)) (by decide))) hq (by decide)
      have hk_D_p_8 : (sN s1 q 5).2.2.2 (D p 8) = 4 := by simp only [sN]; rw [if_neg hn_D_p_8]; exact (k1.1 20404 (D p 0) 0 (D p 8) (k1.2.1.2 3 (by decide)) (by decide))
      have hn_D_p_12 : D p 12 ≠ q := ne0 ((k1.1 20520 (D p 0) 0 (D p 12) (k1.2.1.2 4 (by decide)) (by decide))) hq (by decide)
      have hk_D_p_12 : (sN s1 q 5).2.2.2 (D p 12) = 20 := by simp only [sN]; rw [if_neg hn_D_p_12]; exact (k1.1 20520 (D p 0) 0 (D p 12) (k1.2.1.2 4 (by decide)) (by decide))
      have hn_D_p_13 : D p 13 ≠ q := ne0 ((k1.1 20621 (D p 0) 0 (D p 13) (k1.2.1.2 5 (by decide)) (by decide))) hq (by decide)
      have hk_D_p_13 : (sN s1 q 5).2.2.2 (D p 13) = 21 := by simp only [sN]; rw [if_neg hn_D_p_13]; exact (k1.1 20621 (D p 0) 0 (D p 13) (k1.2.1.2 5 (by decide)) (by decide))
      have hn_D_p_14 : D p 14 ≠ q := ne0 ((k1.1 20722 (D p 0) 0 (D p 14) (k1.2.1.2 6 (by decide)) (by decide))) hq (by decide)
      have hk_D_p_14 : (sN s1 q 5).2.2.2 (D p 14) = 22 := by simp only [sN]; rw [if_neg hn_D_p_14]; exact (k1.1 20722 (D p 0) 0 (D p 14) (k1.2.1.2 6 (by decide)) (by decide))
      have hn_D_p_3 : D p 3 ≠ q := ne0 ((k1.1 80012 (D p 2) 0 (D p 3) (k1.2.1.2 7 (by decide)) (by decide))) hq (by decide)
      have hk_D_p_3 : (sN s1 q 5).2.2.2 (D p 3) = 12 := by simp only [sN]; rw [if_neg hn_D_p_3]; exact (k1.1 80012 (D p 2) 0 (D p 3) (k1.2.1.2 7 (by decide)) (by decide))
      have hn_D_p_4 : D p 4 ≠ q := ne0 ((k1.1 80113 (D p 2) 0 (D p 4) (k1.2.1.2 8 (by decide)) (by decide))) hq (by decide)
      have hk_D_p_4 : (sN s1 q 5).2.2.2 (D p 4) = 13 := by simp only [sN]; rw [if_neg hn_D_p_4]; exact (k1.1 80113 (D p 2) 0 (D p 4) (k1.2.1.2 8 (by decide)) (by decide))
      have hn_D_p_5 : D p 5 ≠ q := ne0 ((k1.1 80214 (D p 2) 0 (D p 5) (k1.2.1.2 9 (by decide)) (by decide))) hq (by decide)
      have hk_D_p_5 : (sN s1 q 5).2.2.2 (D p 5) = 14 := by simp only [sN]; rw [if_neg hn_D_p_5]; exact (k1.1 80214 (D p 2) 0 (D p 5) (k1.2.1.2 9 (by decide)) (by decide))
      have hn_D_p_7 : D p 7 ≠ q := ne0 ((k1.1 90015 (D p 6) 0 (D p 7) (k1.2.1.2 10 (by decide)) (by decide))) hq (by decide)
      have hk_D_p_7 : (sN s1 q 5).2.2.2 (D p 7) = 15 := by simp only [sN]; rw [if_neg hn_D_p_7]; exact (k1.1 90015 (D p 6) 0 (D p 7) (k1.2.1.2 10 (by decide)) (by decide))
      have hn_D_p_9 : D p 9 ≠ q := ne0 ((k1.1 40016 (D p 8) 0 (D p 9) (k1.2.1.2 11 (by decide)) (by decide))) hq (by decide)
      have hk_D_p_9 : (sN s1 q 5).2.2.2 (D p 9) = 16 := by simp only [sN]; rw [if_neg hn_D_p_9]; exact (k1.1 40016 (D p 8) 0 (D p 9) (k1.2.1.2 11 (by decide)) (by decide))
      have hn_D_p_10 : D p 10 ≠ q := ne0 ((k1.1 40117 (D p 8) 0 (D p 10) (k1.2.1.2 12 (by decide)) (by decide))) hq (by decide)
      have hk_D_p_10 : (sN s1 q 5).2.2.2 (D p 10) = 17 := by simp only [sN]; rw [if_neg hn_D_p_10]; exact (k1.1 40117 (D p 8) 0 (D p 10) (k1.2.1.2 12 (by decide)) (by decide))
      have hn_D_p_11 : D p 11 ≠ q := ne0 ((k1.1 40218 (D p 8) 0 (D p 11) (k1.2.1.2 13 (by decide)) (by decide))) hq (by decide)
      have hk_D_p_11 : (sN s1 q 5).2.2.2 (D p 11) = 18 := by simp only [sN]; rw [if_neg hn_D_p_11]; exact (k1.1 40218 (D p 8) 0 (D p 11) (k1.2.1.2 13 (by decide)) (by decide))
      have hn_w9 : w9 ≠ q := ne0 (hk91) hq (by decide)
      have hk_w9 : (sN s1 q 5).2.2.2 w9 = 7 := by simp only [sN]; rw [if_neg hn_w9]; exact hk91
      have hkq : (sN s1 q 5).2.2.2 q = 5 := by simp [sN]
      show WG _ _ _ _ _ _ _ (63, [(3, vR (some w9)), (2, vI (nI (n + 1))), (1, vI (nI ks.length)), (0, vR (some (D p 0)))], [vR (some q), vR (s1.2.1 20520 (D p 0) 0)], sN s1 q 5, cs + 1, sl + 3)
      refine w_run 4 (S' := (67, [(3, vR (some w9)), (2, vI (nI (n + 1))), (1, vI (nI ks.length)), (0, vR (some (D p 0)))], [vR (some w9), vR none, vI 4, vR (some q), vR (some q), vR (s1.2.1 20520 (D p 0) 0)], sN s1 q 5, cs + 1, sl + 3)) rfl ?_
      refine w_get (k := 7) (vI ((sN s1 q 5).1 70100 w9 0)) rfl rfl rfl hk_w9 rfl rfl ?_
      refine w_callI (st := [vR (some q), vR (s1.2.1 20520 (D p 0) 0)]) [vI 4, vR none, vI ((sN s1 q 5).1 70100 w9 0)] rfl ml_1_147 rfl rfl (by simp only [RM]; omega) (by simp only [RM]; show 8 + (4 + 11) + _ ≤ _; omega) rfl (by simp only [RM]; omega) (by simp only [RM]; omega) (c_wk_init l E (d - 1) (sN s1 q 5) q 4 ((sN s1 q 5).1 70100 w9 0) none (by omega) hkq (fun b9 h9 => by cases h9)) ?_
      intro r9 s9 q9
      rw [q9.1, q9.2]
      clear q9 r9 s9
      show WG _ _ _ _ _ _ _ (73, [(3, vR (some w9)), (2, vI (nI (n + 1))), (1, vI (nI ks.length)), (0, vR (some (D p 0)))], [vR (some q), vR (s1.2.1 20520 (D p 0) 0)], wkS s1 q 4 none ((sN s1 q 5).1 70100 w9 0), cs + 1, sl + 3)
      refine Eq.mp (congrArg (fun x9 => WG _ _ _ _ _ _ _ (73, [(3, vR (some w9)), (2, vI (nI (n + 1))), (1, vI (nI ks.length)), (0, vR (some (D p 0)))], [vR (some q), vR x9], wkS s1 q 4 none ((sN s1 q 5).1 70100 w9 0), cs + 1, sl + 3)) (Eq.symm (k1.2.1.2 4 (by decide)) : some (D p 12) = s1.2.1 20520 (D p 0) 0)) ?_
      show WG _ _ _ _ _ _ _ (73, [(3, vR (some w9)), (2, vI (nI (n + 1))), (1, vI (nI ks.length)), (0, vR (some (D p 0)))], [vR (some q), vR (some (D p 12))], wkS s1 q 4 none ((sN s1 q 5).1 70100 w9 0), cs + 1, sl + 3)
      refine w_callV (st := []) [vR (some q)] rfl ml_1_150 rfl rfl hk_D_p_12 rfl rfl rfl (by simp only [RM]; omega) (by simp only [RM]; show 8 + (2 + 11) + _ ≤ _; omega) rfl (by simp only [RM]; omega) (by simp only [RM]; omega) (c_la_add_20 l E (d - 1) (wkS s1 q 4 none ((sN s1 q 5).1 70100 w9 0)) (fun p => D p 12) L1 AR1 (k1.wkN hq hqe).2.2.1 p hp q (d - 8) (by omega) hkq (by omega)) (fun _ _ h => h.elim) ?_
      intro r9 s2 q9
      obtain ⟨e1, AR9, hl9, he9⟩ := q9
      subst e1
      have k2 := (k1.wkN hq hqe).a20 he9 hl9
      show WG _ _ _ _ _ _ _ (76, [(3, vR (some w9)), (2, vI (nI (n + 1))), (1, vI (nI ks.length)), (0, vR (some (D p 0)))], [vI 1], s2, cs + 1 + 1, sl + 3 + 450)
      refine w_run 4 (S' := (10, [(2, vI ((nI (n + 1)) + (-1))), (3, vR (some w9)), (1, vI (nI ks.length)), (0, vR (some (D p 0)))], [], s2, cs + 1 + 1, sl + 3 + 450)) rfl ?_
      refine w_lsP [0, 2, 3] ?_
      show WG _ _ _ _ _ _ _ (10, [(2, vI ((nI (n + 1)) + (-1))), (1, vI (nI ks.length)), (0, vR (some (D p 0)))], [], s2, cs + 1 + 1, sl + 3 + 450)
      rw [show ((nI (n + 1)) + (-1) : Int32) = nI n from nI_dec n]
      exact ih ks s2 (upL L1 p (L1 p ++ [q])) (upL L3 p (ks ++ ws)) AR9 AR3 n (cs + 1 + 1) (sl + 3 + 450) hn' upL_s k2 (by rw [upL_s, List.length_append]; show (L1 p).length + 1 + n < 128; omega) (by omega) (by omega) (by omega) (fun w h => by rw [(ew_up e9 hq he9 (k0.2.2.2.2.kd k0.1 (by decide) (by decide) hp (List.getElem?_of_mem (hL3 ▸ List.mem_append_right ks (List.mem_cons_of_mem _ h) : w ∈ L3 p)).choose_spec)).1]; exact hnd w (List.mem_cons_of_mem _ h)) (fun τ' L1' L3' AR1' AR3' cs' sl' h1 h2 h3 h4 => KK τ' L1' L3' AR1' AR3' cs' sl' (by omega) (by omega) ⟨a9, ha9, by rw [if_neg c3]; exact ⟨s1, q, s2, AR9, AR3, e9, h9, hq, hqe, he9, hl9, h3⟩⟩ h4)
set_option maxHeartbeats 4000000 in
theorem c_pr_endWatchesOfTheDead (l : Launch) (E : FE) (d : Nat) (σ : Sg) (D : Nat → Nat → Nat) (p : Nat) (L1 : Nat → List Nat) (AR1 : Nat → Nat) (L2 : Nat → List Nat) (AR2 : Nat → Nat) (L3 : Nat → List Nat) (AR3 : Nat → Nat) (hd : 8 ≤ d) (hp : p < 4) (k0 : Kp E D p L1 L2 L3 AR1 AR2 AR3 σ) (hb1 : (L1 p).length + (L3 p).length < 128) (hb2 : (L3 p).length < 128) (hnd : ∀ w, w ∈ L3 p → ∃ a, σ.2.1 70003 w 0 = some a) : CT l E d 44 [vR (some (D p 0))] σ (2 * (L3 p).length) (453 * (L3 p).length) (fun r σ' => r = none ∧ ∃ L1' L3' AR1' AR3', ewP E D p [] (L3 p) L1 L3 σ L1' L3' σ' ∧ Kp E D p L1' L2 L3' AR1' AR2 AR3' σ') (fun _ _ => False) := by
  have hw := k0.1
  have hP := k0.2.1
  refine CTo ok_pr_endWatchesOfTheDead (by decide +kernel) rfl rfl rfl ?_
  refine w_run 3 (S' := (3, [(1, vI 0), (0, vR (some (D p 0)))], [vR (some (D p 0))], σ, 0, 0)) rfl ?_
  refine w_get (k := 2) (vR (σ.2.1 20722 (D p 0) 0)) rfl rfl rfl hP.1 rfl rfl ?_
  refine Eq.mp (congrArg (fun x9 => WG _ _ _ _ _ _ _ (6, [(1, vI 0), (0, vR (some (D p 0)))], [vR x9], σ, 0, 0)) (Eq.symm (hP.2 6 (by decide)) : some (D p 14) = σ.2.1 20722 (D p 0) 0)) ?_
  show WG _ _ _ _ _ _ _ (6, [(1, vI 0), (0, vR (some (D p 0)))], [vR (some (D p 14))], σ, 0, 0)
  refine w_callV (st := []) [] rfl ml_1_65 rfl rfl (hw 20722 (D p 0) 0 (D p 14) (hP.2 6 (by decide)) (by decide)) rfl rfl rfl (by simp only [RM]; omega) (by simp only [RM]; show 8 + (1 + 11) + _ ≤ _; omega) rfl (by simp only [RM]; omega) (by simp only [RM]; omega) (c_la_size_22 l E (d - 1) σ (fun p => D p 14) L3 AR3 k0.2.2.2.2 p hp) (fun _ _ h => h.elim) ?_
  intro r9 s9 q9
  rw [q9.1, q9.2]
  clear q9 r9 s9
  show WG _ _ _ _ _ _ _ (9, [(1, vI 0), (0, vR (some (D p 0)))], [vI (nI (L3 p).length)], σ, 0, 0)
  refine w_run 1 (S' := (10, [(2, vI (nI (L3 p).length)), (1, vI 0), (0, vR (some (D p 0)))], [], σ, 0, 0)) rfl ?_
  rw [show (nI (L3 p).length : Int32) = nI ((L3 p).length) from by simp only [nl0, nl1, nl2, nl3, nl4, nl5, nl6, nl8, nl9, nl10, nl12, nl15, nl16, nl20, nl24, nl32, nl40, nl64, nl65, nl384, pk_mul, nI_add]]
  show WG _ _ _ _ _ _ _ (10, [(2, vI (nI ((L3 p).length))), (1, vI 0), (0, vR (some (D p 0)))], [], σ, 0, 0)
  refine lk_pr_ew l E d D p L2 AR2 hd hp (L3 p) [] σ L1 L3 AR1 AR3 (L3 p).length 0 0 rfl rfl k0 hb1 (by simpa using hb2) (by omega) (by omega) hnd (fun s9 L1' L3' AR1' AR3' cs' sl' h1 h2 h3 h4 => ?_)
  show WG _ _ _ _ _ _ _ (89, [(0, vR (some (D p 0)))], [], s9, cs', sl')
  exact w_vret rfl rfl (by omega) (by omega) (⟨rfl, L1', L3', AR1', AR3', h3, h4⟩)

