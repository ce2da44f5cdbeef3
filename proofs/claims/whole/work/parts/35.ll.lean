/-! lists as lists: what the three lists of each process hold -/
def upL {α : Type} (f : Nat → α) (p : Nat) (v : α) : Nat → α := fun x => if x = p then v else f x
theorem upL_s {α : Type} {f : Nat → α} {p : Nat} {v : α} : upL f p v p = v := if_pos rfl
theorem upL_n {α : Type} {f : Nat → α} {p x : Nat} {v : α} (h : x ≠ p) : upL f p v x = f x := if_neg h
/-- the list at a holds xs, in the array ar -/
def LLp (E : FE) (k ka tk : Nat) (σ : Sg) (a ar : Nat) (xs : List Nat) : Prop := σ.2.2.2 a = k ∧ σ.2.1 (10000 * k + 100) a 0 = some ar ∧ σ.1 (10000 * k + 200) a 0 = nI xs.length ∧ xs.length ≤ 128 ∧ ((ar = fe E ∧ xs = []) ∨ (σ.2.2.2 ar = ka ∧ xs.length ≤ lnK ka σ ar ∧ 1 ≤ lnK ka σ ar ∧ lnK ka σ ar ≤ 200 ∧ ∀ i b, xs[i]? = some b → σ.2.1 (10000 * ka + tk) ar i = some b))
def LLx (E : FE) (k ka tk : Nat) (ad : Nat → Nat) (L : Nat → List Nat) (AR : Nat → Nat) (σ : Sg) : Prop := σ.2.2.2 (fe E) = 0 ∧ (∀ p, p < 4 → LLp E k ka tk σ (ad p) (AR p) (L p)) ∧ ∀ p p', p < 4 → p' < 4 → p ≠ p' → ad p ≠ ad p' ∧ (AR p = AR p' → AR p = fe E)
/-- what a list's call leaves as it was -/
def Eqk (E : FE) (k ka : Nat) (σ σ' : Sg) : Prop := (∀ x, σ.2.2.2 x ≠ 0 → σ'.2.2.2 x = σ.2.2.2 x) ∧ σ'.2.2.1 = σ.2.2.1 ∧ (∀ c x i, σ.2.2.2 x ≠ 0 → c / 10000 ≠ k → c / 10000 ≠ ka → σ'.1 c x i = σ.1 c x i ∧ σ'.2.1 c x i = σ.2.1 c x i) ∧ (∀ x, σ.2.2.2 x = 0 → σ'.2.2.2 x = 0 ∨ σ'.2.2.2 x = ka) ∧ (σ.2.2.2 (fe E) = 0 → σ'.2.2.2 (fe E) = 0) ∧ (WF σ → WF σ')
theorem wfA {σ : Sg} {q k n : Nat} (h : WF σ) (hq : σ.2.2.2 q = 0) : WF (sA σ q k n) := by
  intro c a x b hb hc
  have hb' : (if a = q then none else σ.2.1 c a x) = some b := hb
  by_cases e : a = q
  · rw [if_pos e] at hb'; cases hb'
  · rw [if_neg e] at hb'
    have h1 := h c a x b hb' hc
    have hne : b ≠ q := fun z => hc (by rw [← h1, z]; exact hq)
    show (if b = q then k else σ.2.2.2 b) = _
    rw [if_neg hne]; exact h1
theorem wfC {σ : Sg} {c a : Nat} {f : Nat → Option Nat} (h : WF σ) (hf : ∀ i v, f i = some v → c % 100 ≠ 0 → σ.2.2.2 v = c % 100) : WF (sC σ c a f) := by
  intro c' a' x b hb hc
  have hb' : (if c' = c ∧ a' = a then f x else σ.2.1 c' a' x) = some b := hb
  by_cases e : c' = c ∧ a' = a
  · rw [if_pos e] at hb'; rw [e.1] at hc ⊢; exact hf x b hb' hc
  · rw [if_neg e] at hb'; exact h c' a' x b hb' hc
theorem LLx.set {E : FE} {k ka tk : Nat} {ad : Nat → Nat} {L : Nat → List Nat} {AR : Nat → Nat} {σ σ' : Sg} (hk0 : k ≠ 0) (hka0 : ka ≠ 0) (h : LLx E k ka tk ad L AR σ) {p arn : Nat} {xs' : List Nat} (hp : p < 4)
    (hkd : ∀ x, σ.2.2.2 x ≠ 0 → σ'.2.2.2 x = σ.2.2.2 x) (hfe : σ'.2.2.2 (fe E) = 0)
    (hF1 : ∀ x, σ.2.2.2 x ≠ 0 → x ≠ ad p → σ'.2.1 (10000 * k + 100) x 0 = σ.2.1 (10000 * k + 100) x 0) (hF1a : σ'.2.1 (10000 * k + 100) (ad p) 0 = some arn)
    (hF2 : ∀ x, σ.2.2.2 x ≠ 0 → x ≠ ad p → σ'.1 (10000 * k + 200) x 0 = σ.1 (10000 * k + 200) x 0) (hF2a : σ'.1 (10000 * k + 200) (ad p) 0 = nI xs'.length)
    (hln : ∀ x, σ.2.2.2 x = ka → x ≠ arn → lnK ka σ' x = lnK ka σ x) (hC : ∀ x i, σ.2.2.2 x = ka → x ≠ arn → σ'.2.1 (10000 * ka + tk) x i = σ.2.1 (10000 * ka + tk) x i)
    (harn : arn = AR p ∨ σ.2.2.2 arn = 0) (hlen : xs'.length ≤ 128)
    (hn : (arn = fe E ∧ xs' = []) ∨ (σ'.2.2.2 arn = ka ∧ xs'.length ≤ lnK ka σ' arn ∧ 1 ≤ lnK ka σ' arn ∧ lnK ka σ' arn ≤ 200 ∧ ∀ i b, xs'[i]? = some b → σ'.2.1 (10000 * ka + tk) arn i = some b)) :
    LLx E k ka tk ad (upL L p xs') (upL AR p arn) σ' := by
  obtain ⟨h0, h1, h2⟩ := h
  have key : ∀ p', p' < 4 → p' ≠ p → AR p' ≠ fe E → AR p' ≠ arn := by
    intro p' hp' hne hf e
    rcases harn with ha | ha
    · exact hf ((h2 p' p hp' hp hne).2 (e.trans ha))
    · rcases (h1 p' hp').2.2.2.2 with ⟨z, -⟩ | ⟨z, -⟩
      · exact hf z
      · rw [e, ha] at z; exact hka0 z.symm
  refine ⟨hfe, fun p' hp' => ?_, fun p1 p2 hp1 hp2 hne => ⟨(h2 p1 p2 hp1 hp2 hne).1, ?_⟩⟩
  · by_cases e : p' = p
    · subst e
      rw [upL_s, upL_s]
      exact ⟨by rw [hkd _ (by rw [(h1 p' hp').1]; exact hk0)]; exact (h1 p' hp').1, hF1a, hF2a, hlen, hn⟩
    · rw [upL_n e, upL_n e]
      obtain ⟨g1, g2, g3, g4, g5⟩ := h1 p' hp'
      have hz : σ.2.2.2 (ad p') ≠ 0 := by rw [g1]; exact hk0
      have hna : ad p' ≠ ad p := (h2 p' p hp' hp e).1
      refine ⟨by rw [hkd _ hz]; exact g1, by rw [hF1 _ hz hna]; exact g2, by rw [hF2 _ hz hna]; exact g3, g4, ?_⟩
      rcases g5 with g5 | ⟨k1, k2, k3, k4, k5⟩
      · exact Or.inl g5
      · have hf : AR p' ≠ fe E := fun z => by rw [z, h0] at k1; exact hka0 k1.symm
        have hna2 := key p' hp' e hf
        refine Or.inr ⟨by rw [hkd _ (by rw [k1]; exact hka0)]; exact k1, ?_, ?_, ?_, fun i b hb => by rw [hC _ _ k1 hna2]; exact k5 i b hb⟩ <;> rw [hln _ k1 hna2] <;> assumption
  · intro he
    by_cases e1 : p1 = p
    · subst e1
      have e2 : p2 ≠ p1 := fun z => hne z.symm
      rw [upL_s, upL_n e2] at he
      rw [upL_s]
      by_cases hf : AR p2 = fe E
      · rw [he]; exact hf
      · exact absurd he.symm (key p2 hp2 e2 hf)
    · rw [upL_n e1] at he ⊢
      by_cases e2 : p2 = p
      · subst e2
        rw [upL_s] at he
        by_cases hf : AR p1 = fe E
        · exact hf
        · exact absurd he (key p1 hp1 e1 hf)
      · rw [upL_n e2] at he
        exact (h2 p1 p2 hp1 hp2 hne).2 he
theorem LLx.keep {E : FE} {k ka k2 ka2 tk : Nat} {ad : Nat → Nat} {L : Nat → List Nat} {AR : Nat → Nat} {σ σ' : Sg} (h : LLx E k2 ka2 tk ad L AR σ) (he : Eqk E k ka σ σ') (hk0 : k2 ≠ 0) (hka0 : ka2 ≠ 0) (ht : tk < 100) (n1 : k2 ≠ k) (n2 : k2 ≠ ka) (n3 : ka2 ≠ k) (n4 : ka2 ≠ ka) : LLx E k2 ka2 tk ad L AR σ' := by
  obtain ⟨h0, h1, h2⟩ := h
  obtain ⟨e1, -, e3, -, e5, -⟩ := he
  refine ⟨e5 h0, fun p hp => ?_, h2⟩
  obtain ⟨g1, g2, g3, g4, g5⟩ := h1 p hp
  have hz : σ.2.2.2 (ad p) ≠ 0 := by rw [g1]; exact hk0
  refine ⟨by rw [e1 _ hz]; exact g1, by rw [(e3 _ _ _ hz (by omega) (by omega)).2]; exact g2, by rw [(e3 _ _ _ hz (by omega) (by omega)).1]; exact g3, g4, ?_⟩
  rcases g5 with g5 | ⟨k1, k2', k3, k4, k5⟩
  · exact Or.inl g5
  · have hz2 : σ.2.2.2 (AR p) ≠ 0 := by rw [k1]; exact hka0
    have hl : lnK ka2 σ' (AR p) = lnK ka2 σ (AR p) := by unfold lnK; rw [(e3 _ _ _ hz2 (by omega) (by omega)).1]
    refine Or.inr ⟨by rw [e1 _ hz2]; exact k1, by rw [hl]; exact k2', by rw [hl]; exact k3, by rw [hl]; exact k4, fun i b hb => by rw [(e3 _ _ _ hz2 (by omega) (by omega)).2]; exact k5 i b hb⟩
/-- without its list at p being touched in a way that counts -/
theorem LLx.same {E : FE} {k ka tk : Nat} {ad : Nat → Nat} {L : Nat → List Nat} {AR : Nat → Nat} {σ : Sg} (h : LLx E k ka tk ad L AR σ) {p : Nat} (hp : p < 4) : LLp E k ka tk σ (ad p) (AR p) (L p) := h.2.1 p hp
theorem c_la_size_20 (l : Launch) (E : FE) (d : Nat) (σ : Sg) (ad : Nat → Nat) (L : Nat → List Nat) (AR : Nat → Nat) (h : LLx E 20 41 5 ad L AR σ) (p : Nat) (hp : p < 4) : CT l E d 201 [vR (some (ad p))] σ 0 0 (fun r σ' => r = some (vI (nI (L p).length)) ∧ σ' = σ) (fun _ _ => False) := by
  obtain ⟨g1, g2, g3, g4, g5⟩ := h.same hp
  have h9 := c_al_size_20 l E d σ (ad p) g1
  rw [show σ.1 200200 (ad p) 0 = nI (L p).length from g3] at h9
  exact h9
theorem c_la_isEmpty_20 (l : Launch) (E : FE) (d : Nat) (σ : Sg) (ad : Nat → Nat) (L : Nat → List Nat) (AR : Nat → Nat) (h : LLx E 20 41 5 ad L AR σ) (p : Nat) (hp : p < 4) : CT l E d 202 [vR (some (ad p))] σ 0 0 (fun r σ' => r = some (vI (if (L p).length = 0 then 1 else 0)) ∧ σ' = σ) (fun _ _ => False) := by
  obtain ⟨g1, g2, g3, g4, g5⟩ := h.same hp
  have h9 := c_al_isEmpty_20 l E d σ (ad p) g1
  have e9 : (if σ.1 200200 (ad p) 0 = 0 then (1 : Int32) else 0) = if (L p).length = 0 then 1 else 0 := by
    rw [show σ.1 200200 (ad p) 0 = nI (L p).length from g3]
    by_cases z : (L p).length = 0
    · rw [if_pos z, z]; rfl
    · rw [if_neg z, if_neg (show ¬ nI (L p).length = 0 from fun z9 => z ((nI_eq (a := (L p).length) (b := 0) (by omega) (by omega)).mp z9))]
  rw [e9] at h9
  exact h9
theorem c_la_get_20 (l : Launch) (E : FE) (d : Nat) (σ : Sg) (ad : Nat → Nat) (L : Nat → List Nat) (AR : Nat → Nat) (h : LLx E 20 41 5 ad L AR σ) (p : Nat) (hp : p < 4) (i b dd : Nat) (hd : dd + 2 ≤ d) (hb : (L p)[i]? = some b) : CT l E d 203 [vR (some (ad p)), vI (nI i)] σ 0 0 (fun r σ' => r = some (vR (some b)) ∧ σ' = σ) (fun _ _ => False) := by
  obtain ⟨g1, g2, g3, g4, g5⟩ := h.same hp
  have hi := (List.getElem?_eq_some_iff.mp hb).1
  rcases g5 with ⟨-, z⟩ | ⟨k1, k2, k3, k4, k5⟩
  · rw [z] at hb; cases hb
  · have h9 := c_al_get_20 l E d σ (ad p) (AR p) i (L p).length dd hd g1 k1 g2 g3 hi k2 (by omega)
    rw [show σ.2.1 410005 (AR p) i = some b from k5 i b hb] at h9
    exact h9
theorem mono_la_20 {l : Launch} {E : FE} {d mid mc ms : Nat} {av : List MV} {σ : Sg} {Q Q' : Option MV → Sg → Prop} (h : CT l E d mid av σ mc ms Q (fun _ _ => False)) (hq : ∀ r σ', Q r σ' → Q' r σ') : CT l E d mid av σ mc ms Q' (fun _ _ => False) := by
  refine MetFree.mono h (fun _ _ h => h) (fun _ _ _ _ _ h => h) ?_
  rintro a st o t - (⟨⟨⟨r, σ', e, hQ, hR⟩, hF⟩, hL⟩ | h9)
  · exact Or.inl ⟨⟨⟨r, σ', e, hq r σ' hQ, hR⟩, hF⟩, hL⟩
  · exact Or.inr h9
set_option maxHeartbeats 2000000 in
theorem c_la_add_20 (l : Launch) (E : FE) (d : Nat) (σ : Sg) (ad : Nat → Nat) (L : Nat → List Nat) (AR : Nat → Nat) (h : LLx E 20 41 5 ad L AR σ) (p : Nat) (hp : p < 4) (b dd : Nat) (hd : dd + 7 ≤ d) (hb : σ.2.2.2 b = 5) (hL : (L p).length < 128) : CT l E d 204 [vR (some (ad p)), vR (some b)] σ 1 450 (fun r σ' => r = some (vI 1) ∧ ∃ AR', LLx E 20 41 5 ad (upL L p (L p ++ [b])) AR' σ' ∧ Eqk E 20 41 σ σ') (fun _ _ => False) := by
  obtain ⟨g1, g2, g3, g4, g5⟩ := h.same hp
  rcases g5 with ⟨hf, hx⟩ | ⟨k1, k2, k3, k4, k5⟩
  · refine mono_la_20 (c_al_adde_20 l E d σ (ad p) b dd (by omega) g1 hb (by rw [← hf]; exact g2) (by rw [hx] at g3; exact g3)) ?_
    rintro r σ' ⟨q, hq, hqe, rfl, rfl⟩
    have hna : ad p ≠ q := ne0 g1 hq (by decide)
    rw [hx]
    refine ⟨rfl, upL AR p q, ?_, ?_⟩
    · refine h.set (p := p) (arn := q) (xs' := [] ++ [b]) (by decide) (by decide) hp (fun x hx => by have h7 : x ≠ q := fun e => hx (e ▸ hq); simp [sI, sO, sA, sN, sC, h7]) (by simp [sI, sO, sA, sN, sC, hqe.symm, h.1]) (fun x hx h8 => by have h7 : x ≠ q := fun e => hx (e ▸ hq); simp [sI, sO, sA, sN, sC, h8, h7]) (by simp [sI, sO, sA, sN, sC, hna]) (fun x hx h8 => by have h7 : x ≠ q := fun e => hx (e ▸ hq); simp [sI, sO, sA, sN, sC, h8, h7]) (by simp [sI, sO, sA, sN, sC, hna]) (fun x hx h8 => by skip; simp [lnK, sI, sO, sA, sN, sC, h8]) (fun x i hx h8 => by skip; simp [sI, sO, sA, sN, sC, h8]) (Or.inr hq) (show 1 ≤ 128 by decide) (Or.inr ⟨by simp [sI, sO, sA, sN, sC], ?_, ?_, ?_, fun i b9 hb9 => ?_⟩)
      · rw [show lnK 41 (sI (sO (sO (sA (sI σ 200000 (ad p) 0 (σ.1 200000 (ad p) 0 + 1)) q 41 10) 200100 (ad p) 0 (some q)) 410005 q 0 (some b)) 200200 (ad p) 0 (nI (0 + 1))) q = 10 from sA_lenq (k := 41) (by omega)]; show 1 ≤ 10; decide
      · rw [show lnK 41 (sI (sO (sO (sA (sI σ 200000 (ad p) 0 (σ.1 200000 (ad p) 0 + 1)) q 41 10) 200100 (ad p) 0 (some q)) 410005 q 0 (some b)) 200200 (ad p) 0 (nI (0 + 1))) q = 10 from sA_lenq (k := 41) (by omega)]; decide
      · rw [show lnK 41 (sI (sO (sO (sA (sI σ 200000 (ad p) 0 (σ.1 200000 (ad p) 0 + 1)) q 41 10) 200100 (ad p) 0 (some q)) 410005 q 0 (some b)) 200200 (ad p) 0 (nI (0 + 1))) q = 10 from sA_lenq (k := 41) (by omega)]; decide
      · cases i with
        | zero => cases hb9; simp [sI, sO, sA, sN, sC]
        | succ i => cases hb9
    · refine ⟨fun x hx => by have h7 : x ≠ q := fun e => hx (e ▸ hq); simp [sI, sO, sA, sN, sC, h7], rfl, fun c x i hx c1 c2 => ?_, fun x hx => by by_cases e : x = q <;> simp [sI, sO, sA, sN, sC, e, hx], fun h9 => by simp [sI, sO, sA, sN, sC, hqe.symm, h9], fun hW => WF.i (WF.oS (WF.oS (wfA (WF.i hW) hq) (fun h9 => absurd (by decide) h9)) (fun _ => (if_neg (ne0 hb hq (by decide))).trans hb))⟩
      have h7 : x ≠ q := fun e => hx (e ▸ hq)
      have n0 : c ≠ 200000 := by omega
      have n1 : c ≠ 200100 := by omega
      have n2 : c ≠ 200200 := by omega
      have n3 : c ≠ 410005 := by omega
      have n4 : c ≠ 419900 := by omega
      simp [sI, sO, sA, sN, sC, n0, n1, n2, n3, n4, h7]
  · by_cases hful : (L p).length = lnK 41 σ (AR p)
    · refine mono_la_20 (c_al_addm_20 l E d σ (ad p) (AR p) b dd hd g1 k1 hb g2 k3 (by omega) (by rw [← hful]; exact g3)) ?_
      rintro r σ' ⟨q, hq, hqe, rfl, e9⟩
      have e9 : σ' = sI (sO (sO (sC (sA (sI σ 200000 (ad p) 0 (σ.1 200000 (ad p) 0 + 1)) q 41 (lnK 41 σ (AR p) + max (lnK 41 σ (AR p) + 1 - (lnK 41 σ (AR p))) ((lnK 41 σ (AR p)) / 2))) 410005 q (va_cpy (σ.2.1 410005 (AR p)) (fun _ => none) 0 0 (lnK 41 σ (AR p)))) 200100 (ad p) 0 (some q)) 410005 q (lnK 41 σ (AR p)) (some b)) 200200 (ad p) 0 (nI (lnK 41 σ (AR p) + 1)) := e9
      subst e9
      have hna : ad p ≠ q := ne0 g1 hq (by decide)
      have hlq := (show lnK 41 (sI (sO (sO (sC (sA (sI σ 200000 (ad p) 0 (σ.1 200000 (ad p) 0 + 1)) q 41 (lnK 41 σ (AR p) + max (lnK 41 σ (AR p) + 1 - (lnK 41 σ (AR p))) ((lnK 41 σ (AR p)) / 2))) 410005 q (va_cpy (σ.2.1 410005 (AR p)) (fun _ => none) 0 0 (lnK 41 σ (AR p)))) 200100 (ad p) 0 (some q)) 410005 q (lnK 41 σ (AR p)) (some b)) 200200 (ad p) 0 (nI (lnK 41 σ (AR p) + 1))) q = lnK 41 σ (AR p) + max (lnK 41 σ (AR p) + 1 - (lnK 41 σ (AR p))) ((lnK 41 σ (AR p)) / 2) from sA_lenq (k := 41) (by omega))
      refine ⟨rfl, upL AR p q, ?_, ?_⟩
      · refine h.set (p := p) (arn := q) (xs' := L p ++ [b]) (by decide) (by decide) hp (fun x hx => by have h7 : x ≠ q := fun e => hx (e ▸ hq); simp [sI, sO, sA, sN, sC, h7]) (by simp [sI, sO, sA, sN, sC, hqe.symm, h.1]) (fun x hx h8 => by have h7 : x ≠ q := fun e => hx (e ▸ hq); simp [sI, sO, sA, sN, sC, h8, h7]) (by simp [sI, sO, sA, sN, sC, hna]) (fun x hx h8 => by have h7 : x ≠ q := fun e => hx (e ▸ hq); simp [sI, sO, sA, sN, sC, h8, h7]) (by rw [List.length_append, hful]; simp [sI, sO, sA, sN, sC, hna]) (fun x hx h8 => by skip; simp [lnK, sI, sO, sA, sN, sC, h8]) (fun x i hx h8 => by skip; simp [sI, sO, sA, sN, sC, h8]) (Or.inr hq) (by rw [List.length_append]; show _ + 1 ≤ _; omega) (Or.inr ⟨by simp [sI, sO, sA, sN, sC], ?_, ?_, ?_, fun i b9 hb9 => ?_⟩)
        · rw [hlq, List.length_append]; show _ + 1 ≤ _; omega
        · rw [hlq]; omega
        · rw [hlq]; omega
        · by_cases hi : i < (L p).length
          · rw [List.getElem?_append_left hi] at hb9
            have h8 : i ≠ lnK 41 σ (AR p) := by omega
            have h9 : i < lnK 41 σ (AR p) := by omega
            have h10 := k5 i b9 hb9
            simp [sI, sO, sA, sN, sC, va_cpy, h8, h9]
            exact h10
          · rw [List.getElem?_append_right (by omega)] at hb9
            have hi2 := (List.getElem?_eq_some_iff.mp hb9).1
            have h8 : i = lnK 41 σ (AR p) := by simp at hi2; omega
            have h9 : i - (L p).length = 0 := by omega
            rw [h9] at hb9
            cases hb9
            rw [h8]
            simp [sI, sO, sA, sN, sC]
      · refine ⟨fun x hx => by have h7 : x ≠ q := fun e => hx (e ▸ hq); simp [sI, sO, sA, sN, sC, h7], rfl, fun c x i hx c1 c2 => ?_, fun x hx => by by_cases e : x = q <;> simp [sI, sO, sA, sN, sC, e, hx], fun h9 => by simp [sI, sO, sA, sN, sC, hqe.symm, h9], fun hW => WF.i (WF.oS (WF.oS (wfC (wfA (WF.i hW) hq) (fun i v hv hc => by unfold va_cpy at hv; split at hv; exact (if_neg (fun e => hc (by rw [← hW _ _ _ _ hv hc, e]; exact hq))).trans (hW _ _ _ _ hv hc); cases hv)) (fun h9 => absurd (by decide) h9)) (fun _ => (if_neg (ne0 hb hq (by decide))).trans hb))⟩
        have h7 : x ≠ q := fun e => hx (e ▸ hq)
        have n0 : c ≠ 200000 := by omega
        have n1 : c ≠ 200100 := by omega
        have n2 : c ≠ 200200 := by omega
        have n3 : c ≠ 410005 := by omega
        have n4 : c ≠ 419900 := by omega
        simp [sI, sO, sA, sN, sC, n0, n1, n2, n3, n4, h7]
    · refine mono_la_20 (c_al_addr_20 l E d σ (ad p) (AR p) b (L p).length dd (by omega) g1 k1 hb g2 g3 (by omega) (by omega)) ?_
      rintro r σ' ⟨rfl, rfl⟩
      refine ⟨rfl, upL AR p (AR p), ?_, ?_⟩
      · refine h.set (p := p) (arn := AR p) (xs' := L p ++ [b]) (by decide) (by decide) hp (fun x hx => by simp [sI, sO, sA, sN, sC]) (by simp [sI, sO, sA, sN, sC, h.1]) (fun x hx h8 => by simp [sI, sO, sA, sN, sC, h8]) (by simp [sI, sO, sA, sN, sC, g2]) (fun x hx h8 => by simp [sI, sO, sA, sN, sC, h8]) (by rw [List.length_append]; simp [sI, sO, sA, sN, sC]) (fun x hx h8 => by skip; simp [lnK, sI, sO, sA, sN, sC, h8]) (fun x i hx h8 => by skip; simp [sI, sO, sA, sN, sC, h8]) (Or.inl rfl) (by rw [List.length_append]; show _ + 1 ≤ _; omega) (Or.inr ⟨k1, ?_, k3, k4, fun i b9 hb9 => ?_⟩)
        · show _ ≤ lnK 41 σ (AR p); rw [List.length_append]; show _ + 1 ≤ _; omega
        · by_cases hi : i < (L p).length
          · rw [List.getElem?_append_left hi] at hb9
            have h8 : i ≠ (L p).length := by omega
            have h10 := k5 i b9 hb9
            simp [sI, sO, sA, sN, sC, h8]
            exact h10
          · rw [List.getElem?_append_right (by omega)] at hb9
            have hi2 := (List.getElem?_eq_some_iff.mp hb9).1
            have h8 : i = (L p).length := by simp at hi2; omega
            have h9 : i - (L p).length = 0 := by omega
            rw [h9] at hb9
            cases hb9
            rw [h8]
            simp [sI, sO, sA, sN, sC]
      · refine ⟨fun x hx => by simp [sI, sO, sA, sN, sC], rfl, fun c x i hx c1 c2 => ?_, fun x hx => by simp [sI, sO, sA, sN, sC, hx], fun h9 => by simp [sI, sO, sA, sN, sC, h9], fun hW => WF.i (WF.oS (WF.i hW) (fun _ => hb))⟩
        skip
        have n0 : c ≠ 200000 := by omega
        have n1 : c ≠ 200100 := by omega
        have n2 : c ≠ 200200 := by omega
        have n3 : c ≠ 410005 := by omega
        have n4 : c ≠ 419900 := by omega
        simp [sI, sO, sA, sN, sC, n0, n1, n2, n3, n4]
set_option maxHeartbeats 2000000 in
theorem c_la_remove_20 (l : Launch) (E : FE) (d : Nat) (σ : Sg) (ad : Nat → Nat) (L : Nat → List Nat) (AR : Nat → Nat) (h : LLx E 20 41 5 ad L AR σ) (p : Nat) (hp : p < 4) (i b dd : Nat) (hd : dd + 2 ≤ d) (hb : (L p)[i]? = some b) : CT l E d 205 [vR (some (ad p)), vI (nI i)] σ 0 0 (fun r σ' => r = some (vR (some b)) ∧ LLx E 20 41 5 ad (upL L p ((L p).eraseIdx i)) AR σ' ∧ Eqk E 20 41 σ σ') (fun _ _ => False) := by
  obtain ⟨g1, g2, g3, g4, g5⟩ := h.same hp
  have hi := (List.getElem?_eq_some_iff.mp hb).1
  rcases g5 with ⟨-, z⟩ | ⟨k1, k2, k3, k4, k5⟩
  · rw [z] at hb; cases hb
  have h9 := c_al_remove_20 l E d σ (ad p) (AR p) i (L p).length dd hd g1 k1 g2 g3 hi k2 (by omega)
  rw [show σ.2.1 410005 (AR p) i = some b from k5 i b hb] at h9
  refine mono_la_20 h9 ?_
  rintro r σ' ⟨rfl, rfl⟩
  have hel : ((L p).eraseIdx i).length = (L p).length - 1 := by rw [List.length_eraseIdx]; rw [if_pos hi]
  have hAR : upL AR p (AR p) = AR := by funext x; unfold upL; split <;> simp_all
  refine ⟨rfl, ?_, ?_⟩
  · suffices key : LLx E 20 41 5 ad (upL L p ((L p).eraseIdx i)) (upL AR p (AR p)) (rm_20 σ (ad p) (AR p) (L p).length i) by rw [hAR] at key; exact key
    unfold rm_20
    split
    · refine h.set (p := p) (arn := AR p) (xs' := (L p).eraseIdx i) (by decide) (by decide) hp (fun x hx => by simp [sI, sO, sA, sN, sC]) (by simp [sI, sO, sA, sN, sC, h.1]) (fun x hx h8 => by simp [sI, sO, sA, sN, sC, h8]) (by simp [sI, sO, sA, sN, sC, g2]) (fun x hx h8 => by simp [sI, sO, sA, sN, sC, h8]) (by rw [hel]; simp [sI, sO, sA, sN, sC]) (fun x hx h8 => by skip; simp [lnK, sI, sO, sA, sN, sC, h8]) (fun x i hx h8 => by skip; simp [sI, sO, sA, sN, sC, h8]) (Or.inl rfl) (by omega) (Or.inr ⟨k1, ?_, k3, k4, fun j b9 hb9 => ?_⟩)
      · show _ ≤ lnK 41 σ (AR p); omega
      · have hj := (List.getElem?_eq_some_iff.mp hb9).1
        have h8 : j ≠ (L p).length - 1 := by omega
        rw [List.getElem?_eraseIdx, if_pos (by omega)] at hb9
        have h10 := k5 j b9 hb9
        simp [sI, sO, sA, sN, sC, h8]
        exact h10
    · refine h.set (p := p) (arn := AR p) (xs' := (L p).eraseIdx i) (by decide) (by decide) hp (fun x hx => by simp [sI, sO, sA, sN, sC]) (by simp [sI, sO, sA, sN, sC, h.1]) (fun x hx h8 => by simp [sI, sO, sA, sN, sC, h8]) (by simp [sI, sO, sA, sN, sC, g2]) (fun x hx h8 => by simp [sI, sO, sA, sN, sC, h8]) (by rw [hel]; simp [sI, sO, sA, sN, sC]) (fun x hx h8 => by skip; simp [lnK, sI, sO, sA, sN, sC, h8]) (fun x i hx h8 => by skip; simp [sI, sO, sA, sN, sC, h8]) (Or.inl rfl) (by omega) (Or.inr ⟨k1, ?_, k3, k4, fun j b9 hb9 => ?_⟩)
      · show _ ≤ lnK 41 σ (AR p); omega
      · have hj := (List.getElem?_eq_some_iff.mp hb9).1
        have h8 : j ≠ (L p).length - 1 := by omega
        rw [List.getElem?_eraseIdx] at hb9
        by_cases hji : j < i
        · rw [if_pos hji] at hb9
          have h10 := k5 j b9 hb9
          simp [sI, sO, sA, sN, sC, h8, va_cpy, show ¬ i ≤ j by omega]
          exact h10
        · rw [if_neg hji] at hb9
          have h10 := k5 (j + 1) b9 hb9
          simp [sI, sO, sA, sN, sC, h8, va_cpy, show i ≤ j by omega, show j < i + ((L p).length - 1 - i) by omega, show i + 1 + (j - i) = j + 1 by omega]
          exact h10
  · unfold rm_20
    split
    · refine ⟨fun x hx => by simp [sI, sO, sA, sN, sC], rfl, fun c x i hx c1 c2 => ?_, fun x hx => by simp [sI, sO, sA, sN, sC, hx], fun h9 => by simp [sI, sO, sA, sN, sC, h9], fun hW => WF.oN (WF.i (WF.i hW))⟩
      skip
      have n0 : c ≠ 200000 := by omega
      have n1 : c ≠ 200100 := by omega
      have n2 : c ≠ 200200 := by omega
      have n3 : c ≠ 410005 := by omega
      have n4 : c ≠ 419900 := by omega
      simp [sI, sO, sA, sN, sC, n0, n1, n2, n3, n4]
    · refine ⟨fun x hx => by simp [sI, sO, sA, sN, sC], rfl, fun c x i hx c1 c2 => ?_, fun x hx => by simp [sI, sO, sA, sN, sC, hx], fun h9 => by simp [sI, sO, sA, sN, sC, h9], fun hW => WF.oN (WF.i (wfC (WF.i hW) (fun j v hv hc => by unfold va_cpy at hv; split at hv <;> exact hW _ _ _ _ hv hc)))⟩
      skip
      have n0 : c ≠ 200000 := by omega
      have n1 : c ≠ 200100 := by omega
      have n2 : c ≠ 200200 := by omega
      have n3 : c ≠ 410005 := by omega
      have n4 : c ≠ 419900 := by omega
      simp [sI, sO, sA, sN, sC, n0, n1, n2, n3, n4]
theorem clr_s_20 (ar : Nat) : ∀ (n i : Nat) (τ : Sg), (itF (clr_20 ar) n i τ).1 = τ.1 ∧ (itF (clr_20 ar) n i τ).2.2 = τ.2.2 ∧ (∀ c x j, c ≠ 410005 ∨ x ≠ ar → (itF (clr_20 ar) n i τ).2.1 c x j = τ.2.1 c x j) ∧ (WF τ → WF (itF (clr_20 ar) n i τ))
  | 0, _, _ => ⟨rfl, rfl, fun _ _ _ _ => rfl, fun h => h⟩
  | n + 1, i, τ => by
    obtain ⟨h1, h2, h3, h4⟩ := clr_s_20 ar n (i + 1) (clr_20 ar i τ)
    rw [itF_succ]
    refine ⟨h1, h2, fun c x j h => ?_, fun h => h4 (WF.oN h)⟩
    rw [h3 c x j h]
    rcases h with h | h <;> simp [clr_20, sO, h]
set_option maxHeartbeats 2000000 in
theorem c_la_clear_20 (l : Launch) (E : FE) (d : Nat) (σ : Sg) (ad : Nat → Nat) (L : Nat → List Nat) (AR : Nat → Nat) (h : LLx E 20 41 5 ad L AR σ) (p : Nat) (hp : p < 4) : CT l E d 206 [vR (some (ad p))] σ 0 0 (fun r σ' => r = none ∧ LLx E 20 41 5 ad (upL L p []) AR σ' ∧ Eqk E 20 41 σ σ') (fun _ _ => False) := by
  obtain ⟨g1, g2, g3, g4, g5⟩ := h.same hp
  have hAR : upL AR p (AR p) = AR := by funext x; unfold upL; split <;> simp_all
  rcases g5 with ⟨hf, hx⟩ | ⟨k1, k2, k3, k4, k5⟩
  · refine mono_la_20 (c_al_clearE_20 l E d σ (ad p) g1 (by rw [← hf]; exact g2) (by rw [hx] at g3; exact g3)) ?_
    rintro r σ' ⟨rfl, rfl⟩
    refine ⟨rfl, ?_, ?_⟩
    · suffices key : LLx E 20 41 5 ad (upL L p []) (upL AR p (AR p)) (sI (sI σ 200000 (ad p) 0 (σ.1 200000 (ad p) 0 + 1)) 200200 (ad p) 0 0) by rw [hAR] at key; exact key
      exact h.set (p := p) (arn := AR p) (xs' := []) (by decide) (by decide) hp (fun x hx => by simp [sI, sO, sA, sN, sC]) (by simp [sI, sO, sA, sN, sC, h.1]) (fun x hx h8 => by simp [sI, sO, sA, sN, sC, h8]) (by simp [sI, sO, sA, sN, sC, g2]) (fun x hx h8 => by simp [sI, sO, sA, sN, sC, h8]) (by simp [sI, sO, sA, sN, sC]; rfl) (fun x hx h8 => by skip; simp [lnK, sI, sO, sA, sN, sC, h8]) (fun x i hx h8 => by skip; simp [sI, sO, sA, sN, sC, h8]) (Or.inl rfl) (by decide) (Or.inl ⟨hf, rfl⟩)
    · refine ⟨fun x hx => by simp [sI, sO, sA, sN, sC], rfl, fun c x i hx c1 c2 => ?_, fun x hx => by simp [sI, sO, sA, sN, sC, hx], fun h9 => by simp [sI, sO, sA, sN, sC, h9], fun hW => WF.i (WF.i hW)⟩
      skip
      have n0 : c ≠ 200000 := by omega
      have n1 : c ≠ 200100 := by omega
      have n2 : c ≠ 200200 := by omega
      have n3 : c ≠ 410005 := by omega
      have n4 : c ≠ 419900 := by omega
      simp [sI, sO, sA, sN, sC, n0, n1, n2, n3, n4]
  · refine mono_la_20 (c_al_clear_20 l E d σ (ad p) (AR p) (L p).length g1 k1 g2 g3 k2 (by omega)) ?_
    rintro r σ' ⟨rfl, rfl⟩
    obtain ⟨c1, c2, c3, c4⟩ := clr_s_20 (AR p) (L p).length 0 (sI (sI σ 200000 (ad p) 0 (σ.1 200000 (ad p) 0 + 1)) 200200 (ad p) 0 0)
    generalize itF (clr_20 (AR p)) (L p).length 0 (sI (sI σ 200000 (ad p) 0 (σ.1 200000 (ad p) 0 + 1)) 200200 (ad p) 0 0) = τ at c1 c2 c3 c4 ⊢
    refine ⟨rfl, ?_, ?_⟩
    · suffices key : LLx E 20 41 5 ad (upL L p []) (upL AR p (AR p)) τ by rw [hAR] at key; exact key
      refine h.set (p := p) (arn := AR p) (xs' := []) (by decide) (by decide) hp (fun x hx => by rw [c2]; rfl) (by rw [c2]; exact h.1) (fun x hx h8 => by rw [c3 _ _ _ (Or.inl (by decide))]; rfl) (by rw [c3 _ _ _ (Or.inl (by decide))]; exact g2) (fun x hx h8 => by rw [c1]; simp [sI, h8]) (by rw [c1]; simp [sI]; rfl) (fun x hx h8 => by unfold lnK; rw [c1]; rfl) (fun x i hx h8 => by rw [c3 _ _ _ (Or.inr h8)]; rfl) (Or.inl rfl) (by decide) (Or.inr ⟨by rw [c2]; exact k1, Nat.zero_le _, ?_, ?_, fun i b h => by cases h⟩)
      · unfold lnK; rw [c1]; exact k3
      · unfold lnK; rw [c1]; exact k4
    · refine ⟨fun x hx => by rw [c2]; rfl, by rw [c2]; rfl, fun c x i hx n1 n2 => ?_, fun x hx => by rw [c2]; exact Or.inl hx, fun h9 => by rw [c2]; exact h9, fun hW => c4 (WF.i (WF.i hW))⟩
      have m0 : c ≠ 200000 := by omega
      have m1 : c ≠ 200200 := by omega
      have m2 : c ≠ 410005 := by omega
      rw [c1, c3 _ _ _ (Or.inl m2)]
      simp [sI, m0, m1]
theorem c_la_size_21 (l : Launch) (E : FE) (d : Nat) (σ : Sg) (ad : Nat → Nat) (L : Nat → List Nat) (AR : Nat → Nat) (h : LLx E 21 42 6 ad L AR σ) (p : Nat) (hp : p < 4) : CT l E d 201 [vR (some (ad p))] σ 0 0 (fun r σ' => r = some (vI (nI (L p).length)) ∧ σ' = σ) (fun _ _ => False) := by
  obtain ⟨g1, g2, g3, g4, g5⟩ := h.same hp
  have h9 := c_al_size_21 l E d σ (ad p) g1
  rw [show σ.1 210200 (ad p) 0 = nI (L p).length from g3] at h9
  exact h9
theorem c_la_isEmpty_21 (l : Launch) (E : FE) (d : Nat) (σ : Sg) (ad : Nat → Nat) (L : Nat → List Nat) (AR : Nat → Nat) (h : LLx E 21 42 6 ad L AR σ) (p : Nat) (hp : p < 4) : CT l E d 202 [vR (some (ad p))] σ 0 0 (fun r σ' => r = some (vI (if (L p).length = 0 then 1 else 0)) ∧ σ' = σ) (fun _ _ => False) := by
  obtain ⟨g1, g2, g3, g4, g5⟩ := h.same hp
  have h9 := c_al_isEmpty_21 l E d σ (ad p) g1
  have e9 : (if σ.1 210200 (ad p) 0 = 0 then (1 : Int32) else 0) = if (L p).length = 0 then 1 else 0 := by
    rw [show σ.1 210200 (ad p) 0 = nI (L p).length from g3]
    by_cases z : (L p).length = 0
    · rw [if_pos z, z]; rfl
    · rw [if_neg z, if_neg (show ¬ nI (L p).length = 0 from fun z9 => z ((nI_eq (a := (L p).length) (b := 0) (by omega) (by omega)).mp z9))]
  rw [e9] at h9
  exact h9
theorem c_la_get_21 (l : Launch) (E : FE) (d : Nat) (σ : Sg) (ad : Nat → Nat) (L : Nat → List Nat) (AR : Nat → Nat) (h : LLx E 21 42 6 ad L AR σ) (p : Nat) (hp : p < 4) (i b dd : Nat) (hd : dd + 2 ≤ d) (hb : (L p)[i]? = some b) : CT l E d 203 [vR (some (ad p)), vI (nI i)] σ 0 0 (fun r σ' => r = some (vR (some b)) ∧ σ' = σ) (fun _ _ => False) := by
  obtain ⟨g1, g2, g3, g4, g5⟩ := h.same hp
  have hi := (List.getElem?_eq_some_iff.mp hb).1
  rcases g5 with ⟨-, z⟩ | ⟨k1, k2, k3, k4, k5⟩
  · rw [z] at hb; cases hb
  · have h9 := c_al_get_21 l E d σ (ad p) (AR p) i (L p).length dd hd g1 k1 g2 g3 hi k2 (by omega)
    rw [show σ.2.1 420006 (AR p) i = some b from k5 i b hb] at h9
    exact h9
theorem mono_la_21 {l : Launch} {E : FE} {d mid mc ms : Nat} {av : List MV} {σ : Sg} {Q Q' : Option MV → Sg → Prop} (h : CT l E d mid av σ mc ms Q (fun _ _ => False)) (hq : ∀ r σ', Q r σ' → Q' r σ') : CT l E d mid av σ mc ms Q' (fun _ _ => False) := by
  refine MetFree.mono h (fun _ _ h => h) (fun _ _ _ _ _ h => h) ?_
  rintro a st o t - (⟨⟨⟨r, σ', e, hQ, hR⟩, hF⟩, hL⟩ | h9)
  · exact Or.inl ⟨⟨⟨r, σ', e, hq r σ' hQ, hR⟩, hF⟩, hL⟩
  · exact Or.inr h9
set_option maxHeartbeats 2000000 in
theorem c_la_add_21 (l : Launch) (E : FE) (d : Nat) (σ : Sg) (ad : Nat → Nat) (L : Nat → List Nat) (AR : Nat → Nat) (h : LLx E 21 42 6 ad L AR σ) (p : Nat) (hp : p < 4) (b dd : Nat) (hd : dd + 7 ≤ d) (hb : σ.2.2.2 b = 6) (hL : (L p).length < 128) : CT l E d 204 [vR (some (ad p)), vR (some b)] σ 1 450 (fun r σ' => r = some (vI 1) ∧ ∃ AR', LLx E 21 42 6 ad (upL L p (L p ++ [b])) AR' σ' ∧ Eqk E 21 42 σ σ') (fun _ _ => False) := by
  obtain ⟨g1, g2, g3, g4, g5⟩ := h.same hp
  rcases g5 with ⟨hf, hx⟩ | ⟨k1, k2, k3, k4, k5⟩
  · refine mono_la_21 (c_al_adde_21 l E d σ (ad p) b dd (by omega) g1 hb (by rw [← hf]; exact g2) (by rw [hx] at g3; exact g3)) ?_
    rintro r σ' ⟨q, hq, hqe, rfl, rfl⟩
    have hna : ad p ≠ q := ne0 g1 hq (by decide)
    rw [hx]
    refine ⟨rfl, upL AR p q, ?_, ?_⟩
    · refine h.set (p := p) (arn := q) (xs' := [] ++ [b]) (by decide) (by decide) hp (fun x hx => by have h7 : x ≠ q := fun e => hx (e ▸ hq); simp [sI, sO, sA, sN, sC, h7]) (by simp [sI, sO, sA, sN, sC, hqe.symm, h.1]) (fun x hx h8 => by have h7 : x ≠ q := fun e => hx (e ▸ hq); simp [sI, sO, sA, sN, sC, h8, h7]) (by simp [sI, sO, sA, sN, sC, hna]) (fun x hx h8 => by have h7 : x ≠ q := fun e => hx (e ▸ hq); simp [sI, sO, sA, sN, sC, h8, h7]) (by simp [sI, sO, sA, sN, sC, hna]) (fun x hx h8 => by skip; simp [lnK, sI, sO, sA, sN, sC, h8]) (fun x i hx h8 => by skip; simp [sI, sO, sA, sN, sC, h8]) (Or.inr hq) (show 1 ≤ 128 by decide) (Or.inr ⟨by simp [sI, sO, sA, sN, sC], ?_, ?_, ?_, fun i b9 hb9 => ?_⟩)
      · rw [show lnK 42 (sI (sO (sO (sA (sI σ 210000 (ad p) 0 (σ.1 210000 (ad p) 0 + 1)) q 42 10) 210100 (ad p) 0 (some q)) 420006 q 0 (some b)) 210200 (ad p) 0 (nI (0 + 1))) q = 10 from sA_lenq (k := 42) (by omega)]; show 1 ≤ 10; decide
      · rw [show lnK 42 (sI (sO (sO (sA (sI σ 210000 (ad p) 0 (σ.1 210000 (ad p) 0 + 1)) q 42 10) 210100 (ad p) 0 (some q)) 420006 q 0 (some b)) 210200 (ad p) 0 (nI (0 + 1))) q = 10 from sA_lenq (k := 42) (by omega)]; decide
      · rw [show lnK 42 (sI (sO (sO (sA (sI σ 210000 (ad p) 0 (σ.1 210000 (ad p) 0 + 1)) q 42 10) 210100 (ad p) 0 (some q)) 420006 q 0 (some b)) 210200 (ad p) 0 (nI (0 + 1))) q = 10 from sA_lenq (k := 42) (by omega)]; decide
      · cases i with
        | zero => cases hb9; simp [sI, sO, sA, sN, sC]
        | succ i => cases hb9
    · refine ⟨fun x hx => by have h7 : x ≠ q := fun e => hx (e ▸ hq); simp [sI, sO, sA, sN, sC, h7], rfl, fun c x i hx c1 c2 => ?_, fun x hx => by by_cases e : x = q <;> simp [sI, sO, sA, sN, sC, e, hx], fun h9 => by simp [sI, sO, sA, sN, sC, hqe.symm, h9], fun hW => WF.i (WF.oS (WF.oS (wfA (WF.i hW) hq) (fun h9 => absurd (by decide) h9)) (fun _ => (if_neg (ne0 hb hq (by decide))).trans hb))⟩
      have h7 : x ≠ q := fun e => hx (e ▸ hq)
      have n0 : c ≠ 210000 := by omega
      have n1 : c ≠ 210100 := by omega
      have n2 : c ≠ 210200 := by omega
      have n3 : c ≠ 420006 := by omega
      have n4 : c ≠ 429900 := by omega
      simp [sI, sO, sA, sN, sC, n0, n1, n2, n3, n4, h7]
  · by_cases hful : (L p).length = lnK 42 σ (AR p)
    · refine mono_la_21 (c_al_addm_21 l E d σ (ad p) (AR p) b dd hd g1 k1 hb g2 k3 (by omega) (by rw [← hful]; exact g3)) ?_
      rintro r σ' ⟨q, hq, hqe, rfl, e9⟩
      have e9 : σ' = sI (sO (sO (sC (sA (sI σ 210000 (ad p) 0 (σ.1 210000 (ad p) 0 + 1)) q 42 (lnK 42 σ (AR p) + max (lnK 42 σ (AR p) + 1 - (lnK 42 σ (AR p))) ((lnK 42 σ (AR p)) / 2))) 420006 q (va_cpy (σ.2.1 420006 (AR p)) (fun _ => none) 0 0 (lnK 42 σ (AR p)))) 210100 (ad p) 0 (some q)) 420006 q (lnK 42 σ (AR p)) (some b)) 210200 (ad p) 0 (nI (lnK 42 σ (AR p) + 1)) := e9
      subst e9
      have hna : ad p ≠ q := ne0 g1 hq (by decide)
      have hlq := (show lnK 42 (sI (sO (sO (sC (sA (sI σ 210000 (ad p) 0 (σ.1 210000 (ad p) 0 + 1)) q 42 (lnK 42 σ (AR p) + max (lnK 42 σ (AR p) + 1 - (lnK 42 σ (AR p))) ((lnK 42 σ (AR p)) / 2))) 420006 q (va_cpy (σ.2.1 420006 (AR p)) (fun _ => none) 0 0 (lnK 42 σ (AR p)))) 210100 (ad p) 0 (some q)) 420006 q (lnK 42 σ (AR p)) (some b)) 210200 (ad p) 0 (nI (lnK 42 σ (AR p) + 1))) q = lnK 42 σ (AR p) + max (lnK 42 σ (AR p) + 1 - (lnK 42 σ (AR p))) ((lnK 42 σ (AR p)) / 2) from sA_lenq (k := 42) (by omega))
      refine ⟨rfl, upL AR p q, ?_, ?_⟩
      · refine h.set (p := p) (arn := q) (xs' := L p ++ [b]) (by decide) (by decide) hp (fun x hx => by have h7 : x ≠ q := fun e => hx (e ▸ hq); simp [sI, sO, sA, sN, sC, h7]) (by simp [sI, sO, sA, sN, sC, hqe.symm, h.1]) (fun x hx h8 => by have h7 : x ≠ q := fun e => hx (e ▸ hq); simp [sI, sO, sA, sN, sC, h8, h7]) (by simp [sI, sO, sA, sN, sC, hna]) (fun x hx h8 => by have h7 : x ≠ q := fun e => hx (e ▸ hq); simp [sI, sO, sA, sN, sC, h8, h7]) (by rw [List.length_append, hful]; simp [sI, sO, sA, sN, sC, hna]) (fun x hx h8 => by skip; simp [lnK, sI, sO, sA, sN, sC, h8]) (fun x i hx h8 => by skip; simp [sI, sO, sA, sN, sC, h8]) (Or.inr hq) (by rw [List.length_append]; show _ + 1 ≤ _; omega) (Or.inr ⟨by simp [sI, sO, sA, sN, sC], ?_, ?_, ?_, fun i b9 hb9 => ?_⟩)
        · rw [hlq, List.length_append]; show _ + 1 ≤ _; omega
        · rw [hlq]; omega
        · rw [hlq]; omega
        · by_cases hi : i < (L p).length
          · rw [List.getElem?_append_left hi] at hb9
            have h8 : i ≠ lnK 42 σ (AR p) := by omega
            have h9 : i < lnK 42 σ (AR p) := by omega
            have h10 := k5 i b9 hb9
            simp [sI, sO, sA, sN, sC, va_cpy, h8, h9]
            exact h10
          · rw [List.getElem?_append_right (by omega)] at hb9
            have hi2 := (List.getElem?_eq_some_iff.mp hb9).1
            have h8 : i = lnK 42 σ (AR p) := by simp at hi2; omega
            have h9 : i - (L p).length = 0 := by omega
            rw [h9] at hb9
            cases hb9
            rw [h8]
            simp [sI, sO, sA, sN, sC]
      · refine ⟨fun x hx => by have h7 : x ≠ q := fun e => hx (e ▸ hq); simp [sI, sO, sA, sN, sC, h7], rfl, fun c x i hx c1 c2 => ?_, fun x hx => by by_cases e : x = q <;> simp [sI, sO, sA, sN, sC, e, hx], fun h9 => by simp [sI, sO, sA, sN, sC, hqe.symm, h9], fun hW => WF.i (WF.oS (WF.oS (wfC (wfA (WF.i hW) hq) (fun i v hv hc => by unfold va_cpy at hv; split at hv; exact (if_neg (fun e => hc (by rw [← hW _ _ _ _ hv hc, e]; exact hq))).trans (hW _ _ _ _ hv hc); cases hv)) (fun h9 => absurd (by decide) h9)) (fun _ => (if_neg (ne0 hb hq (by decide))).trans hb))⟩
        have h7 : x ≠ q := fun e => hx (e ▸ hq)
        have n0 : c ≠ 210000 := by omega
        have n1 : c ≠ 210100 := by omega
        have n2 : c ≠ 210200 := by omega
        have n3 : c ≠ 420006 := by omega
        have n4 : c ≠ 429900 := by omega
        simp [sI, sO, sA, sN, sC, n0, n1, n2, n3, n4, h7]
    · refine mono_la_21 (c_al_addr_21 l E d σ (ad p) (AR p) b (L p).length dd (by omega) g1 k1 hb g2 g3 (by omega) (by omega)) ?_
      rintro r σ' ⟨rfl, rfl⟩
      refine ⟨rfl, upL AR p (AR p), ?_, ?_⟩
      · refine h.set (p := p) (arn := AR p) (xs' := L p ++ [b]) (by decide) (by decide) hp (fun x hx => by simp [sI, sO, sA, sN, sC]) (by simp [sI, sO, sA, sN, sC, h.1]) (fun x hx h8 => by simp [sI, sO, sA, sN, sC, h8]) (by simp [sI, sO, sA, sN, sC, g2]) (fun x hx h8 => by simp [sI, sO, sA, sN, sC, h8]) (by rw [List.length_append]; simp [sI, sO, sA, sN, sC]) (fun x hx h8 => by skip; simp [lnK, sI, sO, sA, sN, sC, h8]) (fun x i hx h8 => by skip; simp [sI, sO, sA, sN, sC, h8]) (Or.inl rfl) (by rw [List.length_append]; show _ + 1 ≤ _; omega) (Or.inr ⟨k1, ?_, k3, k4, fun i b9 hb9 => ?_⟩)
        · show _ ≤ lnK 42 σ (AR p); rw [List.length_append]; show _ + 1 ≤ _; omega
        · by_cases hi : i < (L p).length
          · rw [List.getElem?_append_left hi] at hb9
            have h8 : i ≠ (L p).length := by omega
            have h10 := k5 i b9 hb9
            simp [sI, sO, sA, sN, sC, h8]
            exact h10
          · rw [List.getElem?_append_right (by omega)] at hb9
            have hi2 := (List.getElem?_eq_some_iff.mp hb9).1
            have h8 : i = (L p).length := by simp at hi2; omega
            have h9 : i - (L p).length = 0 := by omega
            rw [h9] at hb9
            cases hb9
            rw [h8]
            simp [sI, sO, sA, sN, sC]
      · refine ⟨fun x hx => by simp [sI, sO, sA, sN, sC], rfl, fun c x i hx c1 c2 => ?_, fun x hx => by simp [sI, sO, sA, sN, sC, hx], fun h9 => by simp [sI, sO, sA, sN, sC, h9], fun hW => WF.i (WF.oS (WF.i hW) (fun _ => hb))⟩
        skip
        have n0 : c ≠ 210000 := by omega
        have n1 : c ≠ 210100 := by omega
        have n2 : c ≠ 210200 := by omega
        have n3 : c ≠ 420006 := by omega
        have n4 : c ≠ 429900 := by omega
        simp [sI, sO, sA, sN, sC, n0, n1, n2, n3, n4]
set_option maxHeartbeats 2000000 in
theorem c_la_remove_21 (l : Launch) (E : FE) (d : Nat) (σ : Sg) (ad : Nat → Nat) (L : Nat → List Nat) (AR : Nat → Nat) (h : LLx E 21 42 6 ad L AR σ) (p : Nat) (hp : p < 4) (i b dd : Nat) (hd : dd + 2 ≤ d) (hb : (L p)[i]? = some b) : CT l E d 205 [vR (some (ad p)), vI (nI i)] σ 0 0 (fun r σ' => r = some (vR (some b)) ∧ LLx E 21 42 6 ad (upL L p ((L p).eraseIdx i)) AR σ' ∧ Eqk E 21 42 σ σ') (fun _ _ => False) := by
  obtain ⟨g1, g2, g3, g4, g5⟩ := h.same hp
  have hi := (List.getElem?_eq_some_iff.mp hb).1
  rcases g5 with ⟨-, z⟩ | ⟨k1, k2, k3, k4, k5⟩
  · rw [z] at hb; cases hb
  have h9 := c_al_remove_21 l E d σ (ad p) (AR p) i (L p).length dd hd g1 k1 g2 g3 hi k2 (by omega)
  rw [show σ.2.1 420006 (AR p) i = some b from k5 i b hb] at h9
  refine mono_la_21 h9 ?_
  rintro r σ' ⟨rfl, rfl⟩
  have hel : ((L p).eraseIdx i).length = (L p).length - 1 := by rw [List.length_eraseIdx]; rw [if_pos hi]
  have hAR : upL AR p (AR p) = AR := by funext x; unfold upL; split <;> simp_all
  refine ⟨rfl, ?_, ?_⟩
  · suffices key : LLx E 21 42 6 ad (upL L p ((L p).eraseIdx i)) (upL AR p (AR p)) (rm_21 σ (ad p) (AR p) (L p).length i) by rw [hAR] at key; exact key
    unfold rm_21
    split
    · refine h.set (p := p) (arn := AR p) (xs' := (L p).eraseIdx i) (by decide) (by decide) hp (fun x hx => by simp [sI, sO, sA, sN, sC]) (by simp [sI, sO, sA, sN, sC, h.1]) (fun x hx h8 => by simp [sI, sO, sA, sN, sC, h8]) (by simp [sI, sO, sA, sN, sC, g2]) (fun x hx h8 => by simp [sI, sO, sA, sN, sC, h8]) (by rw [hel]; simp [sI, sO, sA, sN, sC]) (fun x hx h8 => by skip; simp [lnK, sI, sO, sA, sN, sC, h8]) (fun x i hx h8 => by skip; simp [sI, sO, sA, sN, sC, h8]) (Or.inl rfl) (by omega) (Or.inr ⟨k1, ?_, k3, k4, fun j b9 hb9 => ?_⟩)
      · show _ ≤ lnK 42 σ (AR p); omega
      · have hj := (List.getElem?_eq_some_iff.mp hb9).1
        have h8 : j ≠ (L p).length - 1 := by omega
        rw [List.getElem?_eraseIdx, if_pos (by omega)] at hb9
        have h10 := k5 j b9 hb9
        simp [sI, sO, sA, sN, sC, h8]
        exact h10
    · refine h.set (p := p) (arn := AR p) (xs' := (L p).eraseIdx i) (by decide) (by decide) hp (fun x hx => by simp [sI, sO, sA, sN, sC]) (by simp [sI, sO, sA, sN, sC, h.1]) (fun x hx h8 => by simp [sI, sO, sA, sN, sC, h8]) (by simp [sI, sO, sA, sN, sC, g2]) (fun x hx h8 => by simp [sI, sO, sA, sN, sC, h8]) (by rw [hel]; simp [sI, sO, sA, sN, sC]) (fun x hx h8 => by skip; simp [lnK, sI, sO, sA, sN, sC, h8]) (fun x i hx h8 => by skip; simp [sI, sO, sA, sN, sC, h8]) (Or.inl rfl) (by omega) (Or.inr ⟨k1, ?_, k3, k4, fun j b9 hb9 => ?_⟩)
      · show _ ≤ lnK 42 σ (AR p); omega
      · have hj := (List.getElem?_eq_some_iff.mp hb9).1
        have h8 : j ≠ (L p).length - 1 := by omega
        rw [List.getElem?_eraseIdx] at hb9
        by_cases hji : j < i
        · rw [if_pos hji] at hb9
          have h10 := k5 j b9 hb9
          simp [sI, sO, sA, sN, sC, h8, va_cpy, show ¬ i ≤ j by omega]
          exact h10
        · rw [if_neg hji] at hb9
          have h10 := k5 (j + 1) b9 hb9
          simp [sI, sO, sA, sN, sC, h8, va_cpy, show i ≤ j by omega, show j < i + ((L p).length - 1 - i) by omega, show i + 1 + (j - i) = j + 1 by omega]
          exact h10
  · unfold rm_21
    split
    · refine ⟨fun x hx => by simp [sI, sO, sA, sN, sC], rfl, fun c x i hx c1 c2 => ?_, fun x hx => by simp [sI, sO, sA, sN, sC, hx], fun h9 => by simp [sI, sO, sA, sN, sC, h9], fun hW => WF.oN (WF.i (WF.i hW))⟩
      skip
      have n0 : c ≠ 210000 := by omega
      have n1 : c ≠ 210100 := by omega
      have n2 : c ≠ 210200 := by omega
      have n3 : c ≠ 420006 := by omega
      have n4 : c ≠ 429900 := by omega
      simp [sI, sO, sA, sN, sC, n0, n1, n2, n3, n4]
    · refine ⟨fun x hx => by simp [sI, sO, sA, sN, sC], rfl, fun c x i hx c1 c2 => ?_, fun x hx => by simp [sI, sO, sA, sN, sC, hx], fun h9 => by simp [sI, sO, sA, sN, sC, h9], fun hW => WF.oN (WF.i (wfC (WF.i hW) (fun j v hv hc => by unfold va_cpy at hv; split at hv <;> exact hW _ _ _ _ hv hc)))⟩
      skip
      have n0 : c ≠ 210000 := by omega
      have n1 : c ≠ 210100 := by omega
      have n2 : c ≠ 210200 := by omega
      have n3 : c ≠ 420006 := by omega
      have n4 : c ≠ 429900 := by omega
      simp [sI, sO, sA, sN, sC, n0, n1, n2, n3, n4]
theorem clr_s_21 (ar : Nat) : ∀ (n i : Nat) (τ : Sg), (itF (clr_21 ar) n i τ).1 = τ.1 ∧ (itF (clr_21 ar) n i τ).2.2 = τ.2.2 ∧ (∀ c x j, c ≠ 420006 ∨ x ≠ ar → (itF (clr_21 ar) n i τ).2.1 c x j = τ.2.1 c x j) ∧ (WF τ → WF (itF (clr_21 ar) n i τ))
  | 0, _, _ => ⟨rfl, rfl, fun _ _ _ _ => rfl, fun h => h⟩
  | n + 1, i, τ => by
    obtain ⟨h1, h2, h3, h4⟩ := clr_s_21 ar n (i + 1) (clr_21 ar i τ)
    rw [itF_succ]
    refine ⟨h1, h2, fun c x j h => ?_, fun h => h4 (WF.oN h)⟩
    rw [h3 c x j h]
    rcases h with h | h <;> simp [clr_21, sO, h]
set_option maxHeartbeats 2000000 in
theorem c_la_clear_21 (l : Launch) (E : FE) (d : Nat) (σ : Sg) (ad : Nat → Nat) (L : Nat → List Nat) (AR : Nat → Nat) (h : LLx E 21 42 6 ad L AR σ) (p : Nat) (hp : p < 4) : CT l E d 206 [vR (some (ad p))] σ 0 0 (fun r σ' => r = none ∧ LLx E 21 42 6 ad (upL L p []) AR σ' ∧ Eqk E 21 42 σ σ') (fun _ _ => False) := by
  obtain ⟨g1, g2, g3, g4, g5⟩ := h.same hp
  have hAR : upL AR p (AR p) = AR := by funext x; unfold upL; split <;> simp_all
  rcases g5 with ⟨hf, hx⟩ | ⟨k1, k2, k3, k4, k5⟩
  · refine mono_la_21 (c_al_clearE_21 l E d σ (ad p) g1 (by rw [← hf]; exact g2) (by rw [hx] at g3; exact g3)) ?_
    rintro r σ' ⟨rfl, rfl⟩
    refine ⟨rfl, ?_, ?_⟩
    · suffices key : LLx E 21 42 6 ad (upL L p []) (upL AR p (AR p)) (sI (sI σ 210000 (ad p) 0 (σ.1 210000 (ad p) 0 + 1)) 210200 (ad p) 0 0) by rw [hAR] at key; exact key
      exact h.set (p := p) (arn := AR p) (xs' := []) (by decide) (by decide) hp (fun x hx => by simp [sI, sO, sA, sN, sC]) (by simp [sI, sO, sA, sN, sC, h.1]) (fun x hx h8 => by simp [sI, sO, sA, sN, sC, h8]) (by simp [sI, sO, sA, sN, sC, g2]) (fun x hx h8 => by simp [sI, sO, sA, sN, sC, h8]) (by simp [sI, sO, sA, sN, sC]; rfl) (fun x hx h8 => by skip; simp [lnK, sI, sO, sA, sN, sC, h8]) (fun x i hx h8 => by skip; simp [sI, sO, sA, sN, sC, h8]) (Or.inl rfl) (by decide) (Or.inl ⟨hf, rfl⟩)
    · refine ⟨fun x hx => by simp [sI, sO, sA, sN, sC], rfl, fun c x i hx c1 c2 => ?_, fun x hx => by simp [sI, sO, sA, sN, sC, hx], fun h9 => by simp [sI, sO, sA, sN, sC, h9], fun hW => WF.i (WF.i hW)⟩
      skip
      have n0 : c ≠ 210000 := by omega
      have n1 : c ≠ 210100 := by omega
      have n2 : c ≠ 210200 := by omega
      have n3 : c ≠ 420006 := by omega
      have n4 : c ≠ 429900 := by omega
      simp [sI, sO, sA, sN, sC, n0, n1, n2, n3, n4]
  · refine mono_la_21 (c_al_clear_21 l E d σ (ad p) (AR p) (L p).length g1 k1 g2 g3 k2 (by omega)) ?_
    rintro r σ' ⟨rfl, rfl⟩
    obtain ⟨c1, c2, c3, c4⟩ := clr_s_21 (AR p) (L p).length 0 (sI (sI σ 210000 (ad p) 0 (σ.1 210000 (ad p) 0 + 1)) 210200 (ad p) 0 0)
    generalize itF (clr_21 (AR p)) (L p).length 0 (sI (sI σ 210000 (ad p) 0 (σ.1 210000 (ad p) 0 + 1)) 210200 (ad p) 0 0) = τ at c1 c2 c3 c4 ⊢
    refine ⟨rfl, ?_, ?_⟩
    · suffices key : LLx E 21 42 6 ad (upL L p []) (upL AR p (AR p)) τ by rw [hAR] at key; exact key
      refine h.set (p := p) (arn := AR p) (xs' := []) (by decide) (by decide) hp (fun x hx => by rw [c2]; rfl) (by rw [c2]; exact h.1) (fun x hx h8 => by rw [c3 _ _ _ (Or.inl (by decide))]; rfl) (by rw [c3 _ _ _ (Or.inl (by decide))]; exact g2) (fun x hx h8 => by rw [c1]; simp [sI, h8]) (by rw [c1]; simp [sI]; rfl) (fun x hx h8 => by unfold lnK; rw [c1]; rfl) (fun x i hx h8 => by rw [c3 _ _ _ (Or.inr h8)]; rfl) (Or.inl rfl) (by decide) (Or.inr ⟨by rw [c2]; exact k1, Nat.zero_le _, ?_, ?_, fun i b h => by cases h⟩)
      · unfold lnK; rw [c1]; exact k3
      · unfold lnK; rw [c1]; exact k4
    · refine ⟨fun x hx => by rw [c2]; rfl, by rw [c2]; rfl, fun c x i hx n1 n2 => ?_, fun x hx => by rw [c2]; exact Or.inl hx, fun h9 => by rw [c2]; exact h9, fun hW => c4 (WF.i (WF.i hW))⟩
      have m0 : c ≠ 210000 := by omega
      have m1 : c ≠ 210200 := by omega
      have m2 : c ≠ 420006 := by omega
      rw [c1, c3 _ _ _ (Or.inl m2)]
      simp [sI, m0, m1]
theorem c_la_size_22 (l : Launch) (E : FE) (d : Nat) (σ : Sg) (ad : Nat → Nat) (L : Nat → List Nat) (AR : Nat → Nat) (h : LLx E 22 43 7 ad L AR σ) (p : Nat) (hp : p < 4) : CT l E d 201 [vR (some (ad p))] σ 0 0 (fun r σ' => r = some (vI (nI (L p).length)) ∧ σ' = σ) (fun _ _ => False) := by
  obtain ⟨g1, g2, g3, g4, g5⟩ := h.same hp
  have h9 := c_al_size_22 l E d σ (ad p) g1
  rw [show σ.1 220200 (ad p) 0 = nI (L p).length from g3] at h9
  exact h9
theorem c_la_isEmpty_22 (l : Launch) (E : FE) (d : Nat) (σ : Sg) (ad : Nat → Nat) (L : Nat → List Nat) (AR : Nat → Nat) (h : LLx E 22 43 7 ad L AR σ) (p : Nat) (hp : p < 4) : CT l E d 202 [vR (some (ad p))] σ 0 0 (fun r σ' => r = some (vI (if (L p).length = 0 then 1 else 0)) ∧ σ' = σ) (fun _ _ => False) := by
  obtain ⟨g1, g2, g3, g4, g5⟩ := h.same hp
  have h9 := c_al_isEmpty_22 l E d σ (ad p) g1
  have e9 : (if σ.1 220200 (ad p) 0 = 0 then (1 : Int32) else 0) = if (L p).length = 0 then 1 else 0 := by
    rw [show σ.1 220200 (ad p) 0 = nI (L p).length from g3]
    by_cases z : (L p).length = 0
    · rw [if_pos z, z]; rfl
    · rw [if_neg z, if_neg (show ¬ nI (L p).length = 0 from fun z9 => z ((nI_eq (a := (L p).length) (b := 0) (by omega) (by omega)).mp z9))]
  rw [e9] at h9
  exact h9
theorem c_la_get_22 (l : Launch) (E : FE) (d : Nat) (σ : Sg) (ad : Nat → Nat) (L : Nat → List Nat) (AR : Nat → Nat) (h : LLx E 22 43 7 ad L AR σ) (p : Nat) (hp : p < 4) (i b dd : Nat) (hd : dd + 2 ≤ d) (hb : (L p)[i]? = some b) : CT l E d 203 [vR (some (ad p)), vI (nI i)] σ 0 0 (fun r σ' => r = some (vR (some b)) ∧ σ' = σ) (fun _ _ => False) := by
  obtain ⟨g1, g2, g3, g4, g5⟩ := h.same hp
  have hi := (List.getElem?_eq_some_iff.mp hb).1
  rcases g5 with ⟨-, z⟩ | ⟨k1, k2, k3, k4, k5⟩
  · rw [z] at hb; cases hb
  · have h9 := c_al_get_22 l E d σ (ad p) (AR p) i (L p).length dd hd g1 k1 g2 g3 hi k2 (by omega)
    rw [show σ.2.1 430007 (AR p) i = some b from k5 i b hb] at h9
    exact h9
theorem mono_la_22 {l : Launch} {E : FE} {d mid mc ms : Nat} {av : List MV} {σ : Sg} {Q Q' : Option MV → Sg → Prop} (h : CT l E d mid av σ mc ms Q (fun _ _ => False)) (hq : ∀ r σ', Q r σ' → Q' r σ') : CT l E d mid av σ mc ms Q' (fun _ _ => False) := by
  refine MetFree.mono h (fun _ _ h => h) (fun _ _ _ _ _ h => h) ?_
  rintro a st o t - (⟨⟨⟨r, σ', e, hQ, hR⟩, hF⟩, hL⟩ | h9)
  · exact Or.inl ⟨⟨⟨r, σ', e, hq r σ' hQ, hR⟩, hF⟩, hL⟩
  · exact Or.inr h9
set_option maxHeartbeats 2000000 in
theorem c_la_add_22 (l : Launch) (E : FE) (d : Nat) (σ : Sg) (ad : Nat → Nat) (L : Nat → List Nat) (AR : Nat → Nat) (h : LLx E 22 43 7 ad L AR σ) (p : Nat) (hp : p < 4) (b dd : Nat) (hd : dd + 7 ≤ d) (hb : σ.2.2.2 b = 7) (hL : (L p).length < 128) : CT l E d 204 [vR (some (ad p)), vR (some b)] σ 1 450 (fun r σ' => r = some (vI 1) ∧ ∃ AR', LLx E 22 43 7 ad (upL L p (L p ++ [b])) AR' σ' ∧ Eqk E 22 43 σ σ') (fun _ _ => False) := by
  obtain ⟨g1, g2, g3, g4, g5⟩ := h.same hp
  rcases g5 with ⟨hf, hx⟩ | ⟨k1, k2, k3, k4, k5⟩
  · refine mono_la_22 (c_al_adde_22 l E d σ (ad p) b dd (by omega) g1 hb (by rw [← hf]; exact g2) (by rw [hx] at g3; exact g3)) ?_
    rintro r σ' ⟨q, hq, hqe, rfl, rfl⟩
    have hna : ad p ≠ q := ne0 g1 hq (by decide)
    rw [hx]
    refine ⟨rfl, upL AR p q, ?_, ?_⟩
    · refine h.set (p := p) (arn := q) (xs' := [] ++ [b]) (by decide) (by decide) hp (fun x hx => by have h7 : x ≠ q := fun e => hx (e ▸ hq); simp [sI, sO, sA, sN, sC, h7]) (by simp [sI, sO, sA, sN, sC, hqe.symm, h.1]) (fun x hx h8 => by have h7 : x ≠ q := fun e => hx (e ▸ hq); simp [sI, sO, sA, sN, sC, h8, h7]) (by simp [sI, sO, sA, sN, sC, hna]) (fun x hx h8 => by have h7 : x ≠ q := fun e => hx (e ▸ hq); simp [sI, sO, sA, sN, sC, h8, h7]) (by simp [sI, sO, sA, sN, sC, hna]) (fun x hx h8 => by skip; simp [lnK, sI, sO, sA, sN, sC, h8]) (fun x i hx h8 => by skip; simp [sI, sO, sA, sN, sC, h8]) (Or.inr hq) (show 1 ≤ 128 by decide) (Or.inr ⟨by simp [sI, sO, sA, sN, sC], ?_, ?_, ?_, fun i b9 hb9 => ?_⟩)
      · rw [show lnK 43 (sI (sO (sO (sA (sI σ 220000 (ad p) 0 (σ.1 220000 (ad p) 0 + 1)) q 43 10) 220100 (ad p) 0 (some q)) 430007 q 0 (some b)) 220200 (ad p) 0 (nI (0 + 1))) q = 10 from sA_lenq (k := 43) (by omega)]; show 1 ≤ 10; decide
      · rw [show lnK 43 (sI (sO (sO (sA (sI σ 220000 (ad p) 0 (σ.1 220000 (ad p) 0 + 1)) q 43 10) 220100 (ad p) 0 (some q)) 430007 q 0 (some b)) 220200 (ad p) 0 (nI (0 + 1))) q = 10 from sA_lenq (k := 43) (by omega)]; decide
      · rw [show lnK 43 (sI (sO (sO (sA (sI σ 220000 (ad p) 0 (σ.1 220000 (ad p) 0 + 1)) q 43 10) 220100 (ad p) 0 (some q)) 430007 q 0 (some b)) 220200 (ad p) 0 (nI (0 + 1))) q = 10 from sA_lenq (k := 43) (by omega)]; decide
      · cases i with
        | zero => cases hb9; simp [sI, sO, sA, sN, sC]
        | succ i => cases hb9
    · refine ⟨fun x hx => by have h7 : x ≠ q := fun e => hx (e ▸ hq); simp [sI, sO, sA, sN, sC, h7], rfl, fun c x i hx c1 c2 => ?_, fun x hx => by by_cases e : x = q <;> simp [sI, sO, sA, sN, sC, e, hx], fun h9 => by simp [sI, sO, sA, sN, sC, hqe.symm, h9], fun hW => WF.i (WF.oS (WF.oS (wfA (WF.i hW) hq) (fun h9 => absurd (by decide) h9)) (fun _ => (if_neg (ne0 hb hq (by decide))).trans hb))⟩
      have h7 : x ≠ q := fun e => hx (e ▸ hq)
      have n0 : c ≠ 220000 := by omega
      have n1 : c ≠ 220100 := by omega
      have n2 : c ≠ 220200 := by omega
      have n3 : c ≠ 430007 := by omega
      have n4 : c ≠ 439900 := by omega
      simp [sI, sO, sA, sN, sC, n0, n1, n2, n3, n4, h7]
  · by_cases hful : (L p).length = lnK 43 σ (AR p)
    · refine mono_la_22 (c_al_addm_22 l E d σ (ad p) (AR p) b dd hd g1 k1 hb g2 k3 (by omega) (by rw [← hful]; exact g3)) ?_
      rintro r σ' ⟨q, hq, hqe, rfl, e9⟩
      have e9 : σ' = sI (sO (sO (sC (sA (sI σ 220000 (ad p) 0 (σ.1 220000 (ad p) 0 + 1)) q 43 (lnK 43 σ (AR p) + max (lnK 43 σ (AR p) + 1 - (lnK 43 σ (AR p))) ((lnK 43 σ (AR p)) / 2))) 430007 q (va_cpy (σ.2.1 430007 (AR p)) (fun _ => none) 0 0 (lnK 43 σ (AR p)))) 220100 (ad p) 0 (some q)) 430007 q (lnK 43 σ (AR p)) (some b)) 220200 (ad p) 0 (nI (lnK 43 σ (AR p) + 1)) := e9
      subst e9
      have hna : ad p ≠ q := ne0 g1 hq (by decide)
      have hlq := (show lnK 43 (sI (sO (sO (sC (sA (sI σ 220000 (ad p) 0 (σ.1 220000 (ad p) 0 + 1)) q 43 (lnK 43 σ (AR p) + max (lnK 43 σ (AR p) + 1 - (lnK 43 σ (AR p))) ((lnK 43 σ (AR p)) / 2))) 430007 q (va_cpy (σ.2.1 430007 (AR p)) (fun _ => none) 0 0 (lnK 43 σ (AR p)))) 220100 (ad p) 0 (some q)) 430007 q (lnK 43 σ (AR p)) (some b)) 220200 (ad p) 0 (nI (lnK 43 σ (AR p) + 1))) q = lnK 43 σ (AR p) + max (lnK 43 σ (AR p) + 1 - (lnK 43 σ (AR p))) ((lnK 43 σ (AR p)) / 2) from sA_lenq (k := 43) (by omega))
      refine ⟨rfl, upL AR p q, ?_, ?_⟩
      · refine h.set (p := p) (arn := q) (xs' := L p ++ [b]) (by decide) (by decide) hp (fun x hx => by have h7 : x ≠ q := fun e => hx (e ▸ hq); simp [sI, sO, sA, sN, sC, h7]) (by simp [sI, sO, sA, sN, sC, hqe.symm, h.1]) (fun x hx h8 => by have h7 : x ≠ q := fun e => hx (e ▸ hq); simp [sI, sO, sA, sN, sC, h8, h7]) (by simp [sI, sO, sA, sN, sC, hna]) (fun x hx h8 => by have h7 : x ≠ q := fun e => hx (e ▸ hq); simp [sI, sO, sA, sN, sC, h8, h7]) (by rw [List.length_append, hful]; simp [sI, sO, sA, sN, sC, hna]) (fun x hx h8 => by skip; simp [lnK, sI, sO, sA, sN, sC, h8]) (fun x i hx h8 => by skip; simp [sI, sO, sA, sN, sC, h8]) (Or.inr hq) (by rw [List.length_append]; show _ + 1 ≤ _; omega) (Or.inr ⟨by simp [sI, sO, sA, sN, sC], ?_, ?_, ?_, fun i b9 hb9 => ?_⟩)
        · rw [hlq, List.length_append]; show _ + 1 ≤ _; omega
        · rw [hlq]; omega
        · rw [hlq]; omega
        · by_cases hi : i < (L p).length
          · rw [List.getElem?_append_left hi] at hb9
            have h8 : i ≠ lnK 43 σ (AR p) := by omega
            have h9 : i < lnK 43 σ (AR p) := by omega
            have h10 := k5 i b9 hb9
            simp [sI, sO, sA, sN, sC, va_cpy, h8, h9]
            exact h10
          · rw [List.getElem?_append_right (by omega)] at hb9
            have hi2 := (List.getElem?_eq_some_iff.mp hb9).1
            have h8 : i = lnK 43 σ (AR p) := by simp at hi2; omega
            have h9 : i - (L p).length = 0 := by omega
            rw [h9] at hb9
            cases hb9
            rw [h8]
            simp [sI, sO, sA, sN, sC]
      · refine ⟨fun x hx => by have h7 : x ≠ q := fun e => hx (e ▸ hq); simp [sI, sO, sA, sN, sC, h7], rfl, fun c x i hx c1 c2 => ?_, fun x hx => by by_cases e : x = q <;> simp [sI, sO, sA, sN, sC, e, hx], fun h9 => by simp [sI, sO, sA, sN, sC, hqe.symm, h9], fun hW => WF.i (WF.oS (WF.oS (wfC (wfA (WF.i hW) hq) (fun i v hv hc => by unfold va_cpy at hv; split at hv; exact (if_neg (fun e => hc (by rw [← hW _ _ _ _ hv hc, e]; exact hq))).trans (hW _ _ _ _ hv hc); cases hv)) (fun h9 => absurd (by decide) h9)) (fun _ => (if_neg (ne0 hb hq (by decide))).trans hb))⟩
        have h7 : x ≠ q := fun e => hx (e ▸ hq)
        have n0 : c ≠ 220000 := by omega
        have n1 : c ≠ 220100 := by omega
        have n2 : c ≠ 220200 := by omega
        have n3 : c ≠ 430007 := by omega
        have n4 : c ≠ 439900 := by omega
        simp [sI, sO, sA, sN, sC, n0, n1, n2, n3, n4, h7]
    · refine mono_la_22 (c_al_addr_22 l E d σ (ad p) (AR p) b (L p).length dd (by omega) g1 k1 hb g2 g3 (by omega) (by omega)) ?_
      rintro r σ' ⟨rfl, rfl⟩
      refine ⟨rfl, upL AR p (AR p), ?_, ?_⟩
      · refine h.set (p := p) (arn := AR p) (xs' := L p ++ [b]) (by decide) (by decide) hp (fun x hx => by simp [sI, sO, sA, sN, sC]) (by simp [sI, sO, sA, sN, sC, h.1]) (fun x hx h8 => by simp [sI, sO, sA, sN, sC, h8]) (by simp [sI, sO, sA, sN, sC, g2]) (fun x hx h8 => by simp [sI, sO, sA, sN, sC, h8]) (by rw [List.length_append]; simp [sI, sO, sA, sN, sC]) (fun x hx h8 => by skip; simp [lnK, sI, sO, sA, sN, sC, h8]) (fun x i hx h8 => by skip; simp [sI, sO, sA, sN, sC, h8]) (Or.inl rfl) (by rw [List.length_append]; show _ + 1 ≤ _; omega) (Or.inr ⟨k1, ?_, k3, k4, fun i b9 hb9 => ?_⟩)
        · show _ ≤ lnK 43 σ (AR p); rw [List.length_append]; show _ + 1 ≤ _; omega
        · by_cases hi : i < (L p).length
          · rw [List.getElem?_append_left hi] at hb9
            have h8 : i ≠ (L p).length := by omega
            have h10 := k5 i b9 hb9
            simp [sI, sO, sA, sN, sC, h8]
            exact h10
          · rw [List.getElem?_append_right (by omega)] at hb9
            have hi2 := (List.getElem?_eq_some_iff.mp hb9).1
            have h8 : i = (L p).length := by simp at hi2; omega
            have h9 : i - (L p).length = 0 := by omega
            rw [h9] at hb9
            cases hb9
            rw [h8]
            simp [sI, sO, sA, sN, sC]
      · refine ⟨fun x hx => by simp [sI, sO, sA, sN, sC], rfl, fun c x i hx c1 c2 => ?_, fun x hx => by simp [sI, sO, sA, sN, sC, hx], fun h9 => by simp [sI, sO, sA, sN, sC, h9], fun hW => WF.i (WF.oS (WF.i hW) (fun _ => hb))⟩
        skip
        have n0 : c ≠ 220000 := by omega
        have n1 : c ≠ 220100 := by omega
        have n2 : c ≠ 220200 := by omega
        have n3 : c ≠ 430007 := by omega
        have n4 : c ≠ 439900 := by omega
        simp [sI, sO, sA, sN, sC, n0, n1, n2, n3, n4]
set_option maxHeartbeats 2000000 in
theorem c_la_remove_22 (l : Launch) (E : FE) (d : Nat) (σ : Sg) (ad : Nat → Nat) (L : Nat → List Nat) (AR : Nat → Nat) (h : LLx E 22 43 7 ad L AR σ) (p : Nat) (hp : p < 4) (i b dd : Nat) (hd : dd + 2 ≤ d) (hb : (L p)[i]? = some b) : CT l E d 205 [vR (some (ad p)), vI (nI i)] σ 0 0 (fun r σ' => r = some (vR (some b)) ∧ LLx E 22 43 7 ad (upL L p ((L p).eraseIdx i)) AR σ' ∧ Eqk E 22 43 σ σ') (fun _ _ => False) := by
  obtain ⟨g1, g2, g3, g4, g5⟩ := h.same hp
  have hi := (List.getElem?_eq_some_iff.mp hb).1
  rcases g5 with ⟨-, z⟩ | ⟨k1, k2, k3, k4, k5⟩
  · rw [z] at hb; cases hb
  have h9 := c_al_remove_22 l E d σ (ad p) (AR p) i (L p).length dd hd g1 k1 g2 g3 hi k2 (by omega)
  rw [show σ.2.1 430007 (AR p) i = some b from k5 i b hb] at h9
  refine mono_la_22 h9 ?_
  rintro r σ' ⟨rfl, rfl⟩
  have hel : ((L p).eraseIdx i).length = (L p).length - 1 := by rw [List.length_eraseIdx]; rw [if_pos hi]
  have hAR : upL AR p (AR p) = AR := by funext x; unfold upL; split <;> simp_all
  refine ⟨rfl, ?_, ?_⟩
  · suffices key : LLx E 22 43 7 ad (upL L p ((L p).eraseIdx i)) (upL AR p (AR p)) (rm_22 σ (ad p) (AR p) (L p).length i) by rw [hAR] at key; exact key
    unfold rm_22
    split
    · refine h.set (p := p) (arn := AR p) (xs' := (L p).eraseIdx i) (by decide) (by decide) hp (fun x hx => by simp [sI, sO, sA, sN, sC]) (by simp [sI, sO, sA, sN, sC, h.1]) (fun x hx h8 => by simp [sI, sO, sA, sN, sC, h8]) (by simp [sI, sO, sA, sN, sC, g2]) (fun x hx h8 => by simp [sI, sO, sA, sN, sC, h8]) (by rw [hel]; simp [sI, sO, sA, sN, sC]) (fun x hx h8 => by skip; simp [lnK, sI, sO, sA, sN, sC, h8]) (fun x i hx h8 => by skip; simp [sI, sO, sA, sN, sC, h8]) (Or.inl rfl) (by omega) (Or.inr ⟨k1, ?_, k3, k4, fun j b9 hb9 => ?_⟩)
      · show _ ≤ lnK 43 σ (AR p); omega
      · have hj := (List.getElem?_eq_some_iff.mp hb9).1
        have h8 : j ≠ (L p).length - 1 := by omega
        rw [List.getElem?_eraseIdx, if_pos (by omega)] at hb9
        have h10 := k5 j b9 hb9
        simp [sI, sO, sA, sN, sC, h8]
        exact h10
    · refine h.set (p := p) (arn := AR p) (xs' := (L p).eraseIdx i) (by decide) (by decide) hp (fun x hx => by simp [sI, sO, sA, sN, sC]) (by simp [sI, sO, sA, sN, sC, h.1]) (fun x hx h8 => by simp [sI, sO, sA, sN, sC, h8]) (by simp [sI, sO, sA, sN, sC, g2]) (fun x hx h8 => by simp [sI, sO, sA, sN, sC, h8]) (by rw [hel]; simp [sI, sO, sA, sN, sC]) (fun x hx h8 => by skip; simp [lnK, sI, sO, sA, sN, sC, h8]) (fun x i hx h8 => by skip; simp [sI, sO, sA, sN, sC, h8]) (Or.inl rfl) (by omega) (Or.inr ⟨k1, ?_, k3, k4, fun j b9 hb9 => ?_⟩)
      · show _ ≤ lnK 43 σ (AR p); omega
      · have hj := (List.getElem?_eq_some_iff.mp hb9).1
        have h8 : j ≠ (L p).length - 1 := by omega
        rw [List.getElem?_eraseIdx] at hb9
        by_cases hji : j < i
        · rw [if_pos hji] at hb9
          have h10 := k5 j b9 hb9
          simp [sI, sO, sA, sN, sC, h8, va_cpy, show ¬ i ≤ j by omega]
          exact h10
        · rw [if_neg hji] at hb9
          have h10 := k5 (j + 1) b9 hb9
          simp [sI, sO, sA, sN, sC, h8, va_cpy, show i ≤ j by omega, show j < i + ((L p).length - 1 - i) by omega, show i + 1 + (j - i) = j + 1 by omega]
          exact h10
  · unfold rm_22
    split
    · refine ⟨fun x hx => by simp [sI, sO, sA, sN, sC], rfl, fun c x i hx c1 c2 => ?_, fun x hx => by simp [sI, sO, sA, sN, sC, hx], fun h9 => by simp [sI, sO, sA, sN, sC, h9], fun hW => WF.oN (WF.i (WF.i hW))⟩
      skip
      have n0 : c ≠ 220000 := by omega
      have n1 : c ≠ 220100 := by omega
      have n2 : c ≠ 220200 := by omega
      have n3 : c ≠ 430007 := by omega
      have n4 : c ≠ 439900 := by omega
      simp [sI, sO, sA, sN, sC, n0, n1, n2, n3, n4]
    · refine ⟨fun x hx => by simp [sI, sO, sA, sN, sC], rfl, fun c x i hx c1 c2 => ?_, fun x hx => by simp [sI, sO, sA, sN, sC, hx], fun h9 => by simp [sI, sO, sA, sN, sC, h9], fun hW => WF.oN (WF.i (wfC (WF.i hW) (fun j v hv hc => by unfold va_cpy at hv; split at hv <;> exact hW _ _ _ _ hv hc)))⟩
      skip
      have n0 : c ≠ 220000 := by omega
      have n1 : c ≠ 220100 := by omega
      have n2 : c ≠ 220200 := by omega
      have n3 : c ≠ 430007 := by omega
      have n4 : c ≠ 439900 := by omega
      simp [sI, sO, sA, sN, sC, n0, n1, n2, n3, n4]
theorem clr_s_22 (ar : Nat) : ∀ (n i : Nat) (τ : Sg), (itF (clr_22 ar) n i τ).1 = τ.1 ∧ (itF (clr_22 ar) n i τ).2.2 = τ.2.2 ∧ (∀ c x j, c ≠ 430007 ∨ x ≠ ar → (itF (clr_22 ar) n i τ).2.1 c x j = τ.2.1 c x j) ∧ (WF τ → WF (itF (clr_22 ar) n i τ))
  | 0, _, _ => ⟨rfl, rfl, fun _ _ _ _ => rfl, fun h => h⟩
  | n + 1, i, τ => by
    obtain ⟨h1, h2, h3, h4⟩ := clr_s_22 ar n (i + 1) (clr_22 ar i τ)
    rw [itF_succ]
    refine ⟨h1, h2, fun c x j h => ?_, fun h => h4 (WF.oN h)⟩
    rw [h3 c x j h]
    rcases h with h | h <;> simp [clr_22, sO, h]
set_option maxHeartbeats 2000000 in
theorem c_la_clear_22 (l : Launch) (E : FE) (d : Nat) (σ : Sg) (ad : Nat → Nat) (L : Nat → List Nat) (AR : Nat → Nat) (h : LLx E 22 43 7 ad L AR σ) (p : Nat) (hp : p < 4) : CT l E d 206 [vR (some (ad p))] σ 0 0 (fun r σ' => r = none ∧ LLx E 22 43 7 ad (upL L p []) AR σ' ∧ Eqk E 22 43 σ σ') (fun _ _ => False) := by
  obtain ⟨g1, g2, g3, g4, g5⟩ := h.same hp
  have hAR : upL AR p (AR p) = AR := by funext x; unfold upL; split <;> simp_all
  rcases g5 with ⟨hf, hx⟩ | ⟨k1, k2, k3, k4, k5⟩
  · refine mono_la_22 (c_al_clearE_22 l E d σ (ad p) g1 (by rw [← hf]; exact g2) (by rw [hx] at g3; exact g3)) ?_
    rintro r σ' ⟨rfl, rfl⟩
    refine ⟨rfl, ?_, ?_⟩
    · suffices key : LLx E 22 43 7 ad (upL L p []) (upL AR p (AR p)) (sI (sI σ 220000 (ad p) 0 (σ.1 220000 (ad p) 0 + 1)) 220200 (ad p) 0 0) by rw [hAR] at key; exact key
      exact h.set (p := p) (arn := AR p) (xs' := []) (by decide) (by decide) hp (fun x hx => by simp [sI, sO, sA, sN, sC]) (by simp [sI, sO, sA, sN, sC, h.1]) (fun x hx h8 => by simp [sI, sO, sA, sN, sC, h8]) (by simp [sI, sO, sA, sN, sC, g2]) (fun x hx h8 => by simp [sI, sO, sA, sN, sC, h8]) (by simp [sI, sO, sA, sN, sC]; rfl) (fun x hx h8 => by skip; simp [lnK, sI, sO, sA, sN, sC, h8]) (fun x i hx h8 => by skip; simp [sI, sO, sA, sN, sC, h8]) (Or.inl rfl) (by decide) (Or.inl ⟨hf, rfl⟩)
    · refine ⟨fun x hx => by simp [sI, sO, sA, sN, sC], rfl, fun c x i hx c1 c2 => ?_, fun x hx => by simp [sI, sO, sA, sN, sC, hx], fun h9 => by simp [sI, sO, sA, sN, sC, h9], fun hW => WF.i (WF.i hW)⟩
      skip
      have n0 : c ≠ 220000 := by omega
      have n1 : c ≠ 220100 := by omega
      have n2 : c ≠ 220200 := by omega
      have n3 : c ≠ 430007 := by omega
      have n4 : c ≠ 439900 := by omega
      simp [sI, sO, sA, sN, sC, n0, n1, n2, n3, n4]
  · refine mono_la_22 (c_al_clear_22 l E d σ (ad p) (AR p) (L p).length g1 k1 g2 g3 k2 (by omega)) ?_
    rintro r σ' ⟨rfl, rfl⟩
    obtain ⟨c1, c2, c3, c4⟩ := clr_s_22 (AR p) (L p).length 0 (sI (sI σ 220000 (ad p) 0 (σ.1 220000 (ad p) 0 + 1)) 220200 (ad p) 0 0)
    generalize itF (clr_22 (AR p)) (L p).length 0 (sI (sI σ 220000 (ad p) 0 (σ.1 220000 (ad p) 0 + 1)) 220200 (ad p) 0 0) = τ at c1 c2 c3 c4 ⊢
    refine ⟨rfl, ?_, ?_⟩
    · suffices key : LLx E 22 43 7 ad (upL L p []) (upL AR p (AR p)) τ by rw [hAR] at key; exact key
      refine h.set (p := p) (arn := AR p) (xs' := []) (by decide) (by decide) hp (fun x hx => by rw [c2]; rfl) (by rw [c2]; exact h.1) (fun x hx h8 => by rw [c3 _ _ _ (Or.inl (by decide))]; rfl) (by rw [c3 _ _ _ (Or.inl (by decide))]; exact g2) (fun x hx h8 => by rw [c1]; simp [sI, h8]) (by rw [c1]; simp [sI]; rfl) (fun x hx h8 => by unfold lnK; rw [c1]; rfl) (fun x i hx h8 => by rw [c3 _ _ _ (Or.inr h8)]; rfl) (Or.inl rfl) (by decide) (Or.inr ⟨by rw [c2]; exact k1, Nat.zero_le _, ?_, ?_, fun i b h => by cases h⟩)
      · unfold lnK; rw [c1]; exact k3
      · unfold lnK; rw [c1]; exact k4
    · refine ⟨fun x hx => by rw [c2]; rfl, by rw [c2]; rfl, fun c x i hx n1 n2 => ?_, fun x hx => by rw [c2]; exact Or.inl hx, fun h9 => by rw [c2]; exact h9, fun hW => c4 (WF.i (WF.i hW))⟩
      have m0 : c ≠ 220000 := by omega
      have m1 : c ≠ 220200 := by omega
      have m2 : c ≠ 430007 := by omega
      rw [c1, c3 _ _ _ (Or.inl m2)]
      simp [sI, m0, m1]
