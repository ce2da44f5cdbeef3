section MC
variable {E : FE} {g : Gh} {σ σ' σ2 τ τ' : Sg} {n n' m : Nat} {A : Nat → Nat}
theorem MOp.sw {M : Sg → Sg} {c x : Nat} {i : Sg → Nat} {v : Sg → Int32} (hM : MOp A m M) (hp : mpl A m c x) (hi : ∀ τ τ', MEq A m τ τ' → i τ = i τ') (hv : ∀ τ τ', MEq A m τ τ' → v τ = v τ') : MOp A m (fun τ => sI (M τ) c x (i τ) (v τ)) := by
  refine ⟨fun τ => ⟨(hM.1 τ).1, fun c' x' i' hz => ?_⟩, fun τ τ' h c' x' i' hz => ?_⟩
  · show (if c' = c ∧ x' = x ∧ i' = i τ then v τ else (M τ).1 c' x' i') = _
    rw [if_neg]
    · exact (hM.1 τ).2 c' x' i' hz
    · rintro ⟨rfl, rfl, -⟩
      exact hz hp
  · show (if c' = c ∧ x' = x ∧ i' = i τ then v τ else (M τ).1 c' x' i') = (if c' = c ∧ x' = x ∧ i' = i τ' then v τ' else (M τ').1 c' x' i')
    rw [hi τ τ' h, hv τ τ' h, hM.2 τ τ' h c' x' i' hz]
theorem hmO_c {q : Nat} (h : MEq A m τ τ') : hmO τ A q = hmO τ' A q := by
  funext x; unfold hmO; rw [h.a (by decide) (by decide), h.a (by decide) (by decide)]
theorem hmK_c {q : Nat} (h : MEq A m τ τ') : hmK τ A q = hmK τ' A q := by
  funext x; unfold hmK; rw [h.a (by decide) (by decide), h.a (by decide) (by decide), h.a (by decide) (by decide)]
theorem mvH_c {q : Nat} (h : MEq A m τ τ') : mvH τ A q = mvH τ' A q := by
  funext x; unfold mvH; rw [hmK_c h, h.a (by decide) (by decide), h.a (by decide) (by decide)]
theorem tgt_c {p : Nat} (h : MEq A m τ τ') : tgtF τ m A p = tgtF τ' m A p := by
  funext x; unfold tgtF; rw [h.mm (by decide), h.a (by decide) (by decide), h.a (by decide) (by decide), h.a (by decide) (by decide)]
theorem itm_c {p : Nat} (h : MEq A m τ τ') : itmF τ m A p = itmF τ' m A p := by
  funext x; unfold itmF; rw [tgt_c h, h.a (by decide) (by decide), h.a (by decide) (by decide), h.a (by decide) (by decide), h.a (by decide) (by decide)]
theorem bad_c {p : Nat} (h : MEq A m τ τ') : badF τ m A p = badF τ' m A p := by
  funext k a; unfold badF; rw [itm_c h, h.a (by decide) (by decide)]
theorem mvA_M {p b n z : Nat} {w v t : Int32} : MOp A m (fun τ => mvA τ m A p b n z w v t) := by
  unfold mvA
  have hp : ∀ {c j}, 500000 < c → j < 31 → mpl A m c (A j) := fun h1 h2 => plA h1 h2
  refine MOp.sw (i := fun _ => b) (MOp.sw (i := fun _ => 0) (v := fun σ => σ.1 502300 m 0 + 1) (MOp.sw (i := fun _ => b) (v := fun σ => σ.1 502300 m 0) (MOp.sw (i := fun _ => b) (MOp.sw (i := fun _ => b) (MOp.sw (i := fun _ => b) (MOp.sw (i := fun _ => b) (MOp.sw (i := fun _ => b) (MOp.sw (i := fun _ => b) MOp.id ?_ ?_ ?_) ?_ ?_ ?_) ?_ ?_ ?_) ?_ ?_ ?_) ?_ ?_ ?_) ?_ ?_ ?_) ?_ ?_ ?_) ?_ ?_ ?_) ?_ ?_ ?_
  all_goals first | exact plM (by decide) | exact plA (by decide) (by decide) | (intro τ τ' h; first | rfl | rw [h.mm (by decide)])
theorem mv1_M {p b k : Nat} : MOp A m (mv1 A m p b k) := by
  unfold mv1
  exact MOp.w (plA (by decide) (by decide)) (fun τ τ' h => by rw [itm_c h])
theorem MEq.sI {c x i : Nat} {v : Int32} (h : MEq A m τ τ') : MEq A m (sI τ c x i v) (sI τ' c x i v) := by
  intro c' x' i' hz
  show (if c' = c ∧ x' = x ∧ i' = i then v else τ.1 c' x' i') = (if c' = c ∧ x' = x ∧ i' = i then v else τ'.1 c' x' i')
  rw [h c' x' i' hz]
theorem mv2_M {p q b k : Nat} : MOp A m (mv2 A p q b k) := by
  have r7 : ∀ τ τ' : Sg, MEq A m τ τ' → τ.1 710000 (A 20) (4 * b + k) = τ'.1 710000 (A 20) (4 * b + k) := fun τ τ' h => by rw [h.a (by decide) (by decide)]
  have r6 : ∀ τ τ' : Sg, MEq A m τ τ' → τ.1 600000 (A 9) (4 * p + k) = τ'.1 600000 (A 9) (4 * p + k) := fun τ τ' h => by rw [h.a (by decide) (by decide)]
  have p20 : mpl A m 710000 (A 20) := plA (by decide) (by decide)
  have p18 : mpl A m 690000 (A 18) := plA (by decide) (by decide)
  have p19 : mpl A m 700000 (A 19) := plA (by decide) (by decide)
  have b0 : MOp A m (fun τ => sI τ 710000 (A 20) (4 * b + k) (-1)) := MOp.w p20 (fun _ _ _ => rfl)
  unfold mv2
  refine MOp.if (P := fun τ => τ.1 710000 (A 20) (4 * b + k) < 0) (fun τ τ' h => by rw [r7 τ τ' h]) ?_ (MOp.if (P := fun τ => hmO τ A q (τ.1 710000 (A 20) (4 * b + k)) = 0) (fun τ τ' h => by rw [r7 τ τ' h, hmO_c h]) ?_ ?_)
  · exact MOp.sw (i := fun _ => 4 * b + k) (v := fun τ => τ.1 600000 (A 9) (4 * p + k)) (MOp.sw (i := fun _ => 4 * b + k) (v := fun _ => 0) b0 p18 (fun _ _ _ => rfl) (fun _ _ _ => rfl)) p19 (fun _ _ _ => rfl) r6
  · refine MOp.sw (i := fun _ => 4 * b + k) (v := fun τ => τ.1 710000 (A 20) (4 * b + k)) (MOp.sw (i := fun _ => 4 * b + k) (v := fun τ => nI (mvH τ A q (τ.1 710000 (A 20) (4 * b + k)))) (MOp.sw (i := fun _ => 4 * b + k) (v := fun _ => 2) (MOp.sw (i := fun τ => 16 * q + mvH τ A q (τ.1 710000 (A 20) (4 * b + k))) (v := fun τ => τ.1 550000 (A 4) (16 * q + mvH τ A q (τ.1 710000 (A 20) (4 * b + k))) + 1) ?_ (plA (by decide) (by decide)) (fun τ τ' h => by rw [r7 τ τ' h, mvH_c h]) (fun τ τ' h => by rw [r7 τ τ' h, mvH_c h, h.a (by decide) (by decide)])) p18 (fun _ _ _ => rfl) (fun _ _ _ => rfl)) p19 (fun _ _ _ => rfl) (fun τ τ' h => by rw [r7 τ τ' h, mvH_c h])) p20 (fun _ _ _ => rfl) r7
    unfold mvN
    refine MOp.if (P := fun τ => hmK (sI τ 710000 (A 20) (4 * b + k) (-1)) A q (τ.1 710000 (A 20) (4 * b + k)) ≤ 0) (fun τ τ' h => by rw [r7 τ τ' h, hmK_c (h.sI)]) ?_ b0
    exact MOp.sw (i := fun τ => 16 * q + lfN ((sI τ 710000 (A 20) (4 * b + k) (-1)).1 550000 (A 4)) ((sI τ 710000 (A 20) (4 * b + k) (-1)).1 560000 (A 5)) q 15 1) (v := fun τ => τ.1 710000 (A 20) (4 * b + k)) b0 (plA (by decide) (by decide)) (fun τ τ' h => by rw [rIf (by decide), rIf (by decide), rIf (by decide), rIf (by decide), h.a (by decide) (by decide), h.a (by decide) (by decide)]) r7
  · exact MOp.sw (i := fun _ => 4 * b + k) (v := fun τ => τ.1 710000 (A 20) (4 * b + k) - τ.1 710000 (A 20) (4 * b + k) / 10 * 10) (MOp.sw (i := fun _ => 4 * b + k) (v := fun _ => 1) b0 p18 (fun _ _ _ => rfl) (fun _ _ _ => rfl)) p19 (fun _ _ _ => rfl) (fun τ τ' h => by rw [r7 τ τ' h])
theorem mvS_M {p q b n z : Nat} {w v t : Int32} : MOp A m (fun τ => mvS τ m A p q b n z w v t) := by
  unfold mvS
  exact MOp.sw (i := fun _ => p) (v := fun _ => 0) (MOp.sw (i := fun _ => p) (v := fun _ => 0) (MOp.comp (M := fun τ => mvA τ m A p b n z w v t) (N := fun τ => itF (mv2 A p q b) n 0 (itF (mv1 A m p b) n 0 τ)) mvA_M (MOp.comp (M := fun τ => itF (mv1 A m p b) n 0 τ) (N := fun τ => itF (mv2 A p q b) n 0 τ) (MOp.it (fun _ => mv1_M) n 0) (MOp.it (fun _ => mv2_M) n 0))) (plA (by decide) (by decide)) (fun _ _ _ => rfl) (fun _ _ _ => rfl)) (plA (by decide) (by decide)) (fun _ _ _ => rfl) (fun _ _ _ => rfl)
end MC
section DEC
variable {E : FE} {g : Gh} {σ σ' σ2 τ τ' : Sg} {n n' : Nat}
/-- the node behind a handle, and the manager -/
theorem RR.tgt {p : Nat} (R : RR E g n σ) (hn : n ≤ 512) (hp : p < 4) (ha : al g σ p) (y : Int32) : NR g.N (snF σ g.x (g.D p) y) (tgtF σ g.m g.A p y) := by
  unfold snF tgtF
  by_cases c : y = 0
  · rw [if_pos c, if_pos c]; exact R.mg.1
  · rw [if_neg c, if_neg c]
    rcases ((R.h p hp).1 ha).1.strong (by omega) y with ⟨e1, e2⟩ | ⟨a, e1, -, e2⟩
    · rw [e1, e2]; exact Or.inl ⟨rfl, rfl⟩
    · rw [e1, e2]; exact Or.inr ⟨a, rfl, rfl⟩
/-- an item's node -/
theorem RR.item {p i k : Nat} (R : RR E g n σ) (hn : n ≤ 512) (hp : p < 4) (ha : al g σ p) (hk : σ.1 40300 (g.D p 8) 0 = nI k) (hk4 : k ≤ 4) (hi : i < k) : NR g.N (fnV σ g.x (g.D p) i) (itmF σ g.m g.A p i) ∧ σ.1 160000 (g.D p 9) i = σ.1 590000 (g.A 8) (4 * p + i) ∧ σ.1 170000 (g.D p 10) i = σ.1 600000 (g.A 9) (4 * p + i) := by
  obtain ⟨k', z, a1, a2, a3, a4, a5, a6⟩ := R.d p hp
  obtain ⟨b1, b2, b3⟩ := a5 ha
  have : k' = k := (nI_eq (by omega) (by omega)).mp (b1.symm.trans hk)
  subst this
  obtain ⟨c1, c2, c3⟩ := b3 i hi
  refine ⟨?_, c1, c2⟩
  unfold fnV fnF itmF
  rw [c1, c2]
  rcases c3 with e | e | e
  · rw [e, if_neg (by decide), if_neg (by decide), if_neg (by decide), if_pos rfl]; exact Or.inl ⟨rfl, rfl⟩
  · rw [e, if_pos rfl, if_pos rfl]
    obtain ⟨q1, q2, q3, q4, q5⟩ := R.p p hp
    exact NR.own (lv := g.lv p) q4 (fun k hk => by
      rcases R.no.2.2 p k hp hk with ⟨e1, e2⟩ | ⟨a, e1, e2, e3, -⟩
      · exact Or.inl ⟨e1, e2 ha⟩
      · exact Or.inr ⟨a, e1, e2, e3⟩) _
  · rw [e, if_neg (by decide), if_pos rfl, if_neg (by decide), if_neg (by decide)]
    exact R.tgt hn hp ha _
theorem RR.fnk {p i a : Nat} (R : RR E g n σ) (h : fnV σ g.x (g.D p) i = some a) : σ.2.2.2 a = 3 := by
  unfold fnV fnF at h
  split at h
  · unfold natF at h
    split at h
    · cases h
    · split at h
      · exact R.s.wf _ _ _ _ h (by decide)
      · cases h
  · split at h
    · unfold snF at h
      split at h
      · exact R.s.wf _ _ _ _ h (by decide)
      · unfold strongF at h
        split at h
        · cases h
        · split at h
          · cases h
          · exact R.s.wf _ _ _ _ h (by decide)
    · cases h
/-- a bad item -/
theorem RR.bad {p k : Nat} (R : RR E g n σ) (hn : n ≤ 512) (hp : p < 4) (ha : al g σ p) (hk : σ.1 40300 (g.D p 8) 0 = nI k) (hk4 : k ≤ 4) : (∃ i, i < k ∧ fnB σ g.x (g.D p) i) ↔ ¬ itF (badF σ g.m g.A p) k 0 0 = 0 := by
  have st : ∀ i, i < k → ∀ v, badF σ g.m g.A p i v = if v = 0 then (if fnV σ g.x (g.D p) i = none ∧ ¬ σ.1 160000 (g.D p 9) i = 0 then 1 else 0) else 1 := by
    intro i hi v
    obtain ⟨e1, e2, e3⟩ := R.item hn hp ha hk hk4 hi
    have hng := e1.neg (fun a h => by have := R.no.ok R.p (by omega) (R.fnk h); omega)
    unfold badF
    by_cases c : v = 0
    · rw [if_pos c, if_pos c, e2]
      by_cases c2 : σ.1 590000 (g.A 8) (4 * p + i) = 0
      · rw [if_pos c2, if_neg (fun z => z.2 c2)]
      · rw [if_neg c2]
        by_cases c3 : fnV σ g.x (g.D p) i = none
        · rw [if_pos (hng.mpr c3), if_pos ⟨c3, c2⟩]
        · rw [if_neg (fun z => c3 (hng.mp z)), if_neg (fun z => c3 z.1)]
    · rw [if_neg c, if_neg c]
  have h1 := itF_ind (f := badF σ g.m g.A p) (fun i v => (v = 0 ∧ ∀ j, j < i → ¬ fnB σ g.x (g.D p) j) ∨ (v = 1 ∧ ∃ j, j < i ∧ fnB σ g.x (g.D p) j)) k 0 0 (Or.inl ⟨rfl, fun j hj => by omega⟩) (fun i v _ h2 hv => by
    rw [st i (by omega)]
    rcases hv with ⟨rfl, hv⟩ | ⟨rfl, j, hj, hv⟩
    · rw [if_pos rfl]
      by_cases c : fnV σ g.x (g.D p) i = none ∧ ¬ σ.1 160000 (g.D p 9) i = 0
      · rw [if_pos c]; exact Or.inr ⟨rfl, i, by omega, c⟩
      · rw [if_neg c]
        refine Or.inl ⟨rfl, fun j hj => ?_⟩
        by_cases e : j = i
        · subst e; exact c
        · exact hv j (by omega)
    · rw [if_neg (by decide)]; exact Or.inr ⟨rfl, j, by omega, hv⟩)
  rw [Nat.zero_add] at h1
  rcases h1 with ⟨e, h⟩ | ⟨e, h⟩
  · rw [e]; exact ⟨fun ⟨i, hi, hb⟩ => absurd hb (h i hi), fun h => absurd rfl h⟩
  · rw [e]; exact ⟨fun _ => by decide, fun _ => h⟩
theorem cel_eq {s k z : Nat} (h1 : σ.1 40300 s 0 = nI k) (h2 : σ.1 40400 s 0 = nI z) (hk : k ≤ 4) (hz : z ≤ 20) : celF σ s = nI (max 1 (k + z)) := by
  unfold celF
  rw [h1, h2, nI_add, nl1]
  have e := nI_ltI (a := 1) (b := z + k) (by omega) (by omega)
  by_cases c : 1 < z + k
  · rw [if_pos (e.mpr c)]; exact congrArg nI (by omega)
  · rw [if_neg (fun h => c (e.mp h))]; exact congrArg nI (by omega)
theorem RR.gap {q : Nat} (R : RR E g n σ) (hq : q < 4) (ha : al g σ q) (need : Int32) : gapF (nxS σ g.A q) (bhS σ g.A q) need 66 0 (-1) 65 = some (bgR σ (g.D q 7) need) :=
  (((R.a q hq).1 ha).1).gap need
theorem RR.fit {q L : Nat} (R : RR E g n σ) (hq : q < 4) (ha : al g σ q) (hL : 1 ≤ L) (hL2 : L ≤ 64) : bgR σ (g.D q 7) (nI L) = -1 ∨ ∃ c, bgR σ (g.D q 7) (nI L) = nI c ∧ c + L ≤ 64 ∧ (∀ c', c ≤ c' → c' < c + L → σ.2.1 150006 (g.D q 7) c' = none) ∧ ∀ c' m l, c' < c → σ.2.1 150006 (g.D q 7) c' = some m → σ.1 60400 m 0 = nI l → l ≤ 64 → c' + l ≤ c :=
  (((R.a q hq).1 ha).1).fit hL hL2
theorem pstN_r {x j k : Nat} {D : Nat → Nat → Nat} : (pstN σ x D j k).1 = σ.1 ∧ (pstN σ x D j k).2.2 = σ.2.2 ∧ (∀ c a i, c ≠ 180003 → (pstN σ x D j k).2.1 c a i = σ.2.1 c a i) ∧ (∀ a i, a ≠ D j 11 → (pstN σ x D j k).2.1 180003 a i = σ.2.1 180003 a i) ∧ ∀ i, i < k → (pstN σ x D j k).2.1 180003 (D j 11) i = fnV σ x (D j) i := by
  have h1 := itF_ind (f := fnS (fnV σ x (D j)) (D j 11)) (fun i (τ : Sg) => τ.1 = σ.1 ∧ τ.2.2 = σ.2.2 ∧ (∀ c a i, c ≠ 180003 → τ.2.1 c a i = σ.2.1 c a i) ∧ (∀ a i, a ≠ D j 11 → τ.2.1 180003 a i = σ.2.1 180003 a i) ∧ ∀ i', i' < i → τ.2.1 180003 (D j 11) i' = fnV σ x (D j) i') k 0 σ ⟨rfl, rfl, fun _ _ _ _ => rfl, fun _ _ _ => rfl, fun i h => by omega⟩ (fun i τ _ _ h => by
    obtain ⟨g1, g2, g3, g4, g5⟩ := h
    unfold fnS
    refine ⟨g1, g2, fun c a i' hc => (rOO hc).trans (g3 c a i' hc), fun a i' ha' => ?_, fun i' hi' => ?_⟩
    · have : (sO τ 180003 (D j 11) i (fnV σ x (D j) i)).2.1 180003 a i' = τ.2.1 180003 a i' := by simp [sO, ha']
      rw [this]; exact g4 a i' ha'
    · by_cases e : i' = i
      · subst e; exact rOs
      · have : (sO τ 180003 (D j 11) i (fnV σ x (D j) i)).2.1 180003 (D j 11) i' = τ.2.1 180003 (D j 11) i' := by simp [sO, e]
        rw [this]; exact g5 i' (by omega))
  rw [Nat.zero_add] at h1
  exact h1
/-- how many new handles -/
theorem cnh_n {P : Nat → Nat} {a3 k : Nat} : itF (cnhF σ P a3) k 0 0 = nI (sumR (nwN (σ.2.1 180003 a3) (ownF σ (P 0)) (σ.2.1 120003 (P 3))) k 0) := by
  have := itF_sum (f := cnhF σ P a3) (h := nwN (σ.2.1 180003 a3) (ownF σ (P 0)) (σ.2.1 120003 (P 3))) k 0 0 (fun j v _ _ => by
    unfold cnhF nwN
    cases e : σ.2.1 180003 a3 j with
    | none => exact (Int32.add_zero v).symm
    | some a =>
      dsimp only
      by_cases c1 : ownF σ (P 0) a = 0
      · rw [if_pos c1, if_pos c1]
        by_cases c2 : nOf (σ.2.1 120003 (P 3)) (some a) = -1
        · rw [if_pos c2, if_pos c2]
          by_cases c3 : hnb (σ.2.1 180003 a3) (some a) j 0 = 0
          · rw [if_pos c3, if_pos c3]; rfl
          · rw [if_neg c3, if_neg c3]; exact (Int32.add_zero v).symm
        · rw [if_neg c2, if_neg c2]; exact (Int32.add_zero v).symm
      · rw [if_neg c1, if_neg c1]; exact (Int32.add_zero v).symm)
  rw [Nat.zero_add] at this
  exact this
theorem bg_c {a1 : Nat} {c : Int32} (h1 : ∀ i, τ.2.1 150006 a1 i = σ.2.1 150006 a1 i) (h2 : τ.1 = σ.1) : bgR τ a1 c = bgR σ a1 c := by
  unfold bgR
  rw [show τ.2.1 150006 a1 = σ.2.1 150006 a1 from funext h1, h2]
/-- full or not -/
theorem RR.room {p q k z : Nat} {kk y w : Int32} (R : RR E g n σ) (hn : n ≤ 512) (hp : p < 4) (ha : al g σ p) (hq : q < 4) (haq : al g σ q) (hk : σ.1 40300 (g.D p 8) 0 = nI k) (hk4 : k ≤ 4) (hz : σ.1 40400 (g.D p 8) 0 = nI z) (hz4 : z ≤ 20) (hkw : kk = 2 ↔ ¬ w = 0) :
    (¬ (y = 0 ∧ 12 ≤ (g.L1 q).length) ∧ ¬ hrfF (pstN σ g.x g.D p k) (g.D q) (g.D p 8) (g.D p 11) k kk = 0) ↔ flF σ g.m g.A p q k z w y (bgR σ (g.D q 7) (nI (max 1 (k + z)))) = 0 := by
  obtain ⟨N1, N2, N3, N4, N5⟩ := pstN_r (σ := σ) (x := g.x) (j := p) (k := k) (D := g.D)
  obtain ⟨H, hu⟩ := (R.h q hq).1 haq
  obtain ⟨A0, AM, AU, u, hu32, AU1, AU2⟩ := (R.a q hq).1 haq
  obtain ⟨-, -, i3, -, i5⟩ := R.i q hq
  have ecel : celF (pstN σ g.x g.D p k) (g.D p 8) = nI (max 1 (k + z)) := cel_eq (by rw [N1]; exact hk) (by rw [N1]; exact hz) hk4 hz4
  have ebg : bgR (pstN σ g.x g.D p k) (g.D q 7) (nI (max 1 (k + z))) = bgR σ (g.D q 7) (nI (max 1 (k + z))) := bg_c (fun i => N3 _ _ _ (by decide)) N1
  have hN : ∀ {a}, σ.2.2.2 a = 3 → g.N a < 100000 := fun h => R.no.ok R.p (by omega) h
  have ec : itF (cnhF (pstN σ g.x g.D p k) (g.D q) (g.D p 11)) k 0 0 = itF (hmF (hmO σ g.A q) (hmK σ g.A q) (itmF σ g.m g.A p)) k 0 0 := by
    have kk3 : ∀ i a, i < k → (pstN σ g.x g.D p k).2.1 180003 (g.D p 11) i = some a → σ.2.2.2 a = 3 := fun i a hi h => by rw [N5 i hi] at h; exact R.fnk h
    refine cnh_eq (N := g.N) (fun i hi => by rw [N5 i hi]; exact (R.item hn hp ha hk hk4 hi).1) (fun i a hi h => by have := hN (kk3 i a hi h); omega) (fun i i' a b hi hi' h h' e => R.no.2.1 a b (kk3 i a hi h) (kk3 i' b hi' h') e) (fun i a hi h => ?_) (fun i a hi h => ?_)
    · obtain ⟨m1, m2, m3, m4⟩ := R.no.m R.p (by omega) (kk3 i a hi h)
      have : hmO σ g.A q (nI (g.N a)) = ownF (pstN σ g.x g.D p k) (g.D q 0) a := by
        unfold hmO ownF
        rw [N1, ← m1, ← m3, R.s.nm q hq]
      rw [this]
    · have hK := H.hfor (by omega) (K := fun a => σ.2.2.2 a = 3) (fun a b h1 h2 e => R.no.2.1 a b h1 h2 e) (fun h a e => R.s.wf _ _ _ _ e (by decide)) (fun a h => by have := hN h; omega) (kk3 i a hi h)
      rw [show (pstN σ g.x g.D p k).2.1 120003 (g.D q 3) = σ.2.1 120003 (g.D q 3) from funext fun x => N3 _ _ _ (by decide)]
      show hmK σ g.A q (nI (g.N a)) > 0 ↔ _
      rcases hK with ⟨k1, k2⟩ | ⟨h, h1, h2, -, k1, k2⟩
      · rw [show hmK σ g.A q (nI (g.N a)) = 0 from k2, k1]; exact ⟨fun z => absurd z (by decide), fun z => absurd rfl z⟩
      · rw [show hmK σ g.A q (nI (g.N a)) = nI h from k2, k1]
        exact ⟨fun _ => nI_m1 h (by omega), fun _ => (nI_ltI (a := 0) (b := h) (by omega) (by omega)).mpr (by omega)⟩
  have hlen : σ.1 720000 (g.A 21) q < 12 ↔ (g.L1 q).length < 12 := by rw [i3, nl12, nI_ltI (by omega) (by omega)]
  have h3 : (if σ.1 80300 (g.D q 2) 0 + itF (hmF (hmO σ g.A q) (hmK σ g.A q) (itmF σ g.m g.A p)) k 0 0 > 15 then (0 : Int32) else 1) = 0 ↔ ¬ fl3 σ g.m g.A p q k = 0 := by
    unfold fl3
    rw [hu]
    by_cases c : itF (hdsF (σ.1 550000 (g.A 4)) (σ.1 560000 (g.A 5)) q) 15 1 0 + itF (hmF (hmO σ g.A q) (hmK σ g.A q) (itmF σ g.m g.A p)) k 0 0 ≤ 15
    · rw [if_pos c, if_neg (Int32.not_lt.mpr c)]; exact ⟨fun h => absurd h (by decide), fun h => absurd rfl h⟩
    · rw [if_neg c, if_pos (Int32.not_le.mp c)]; exact ⟨fun _ => by decide, fun _ => rfl⟩
  have hm1 : bgR σ (g.D q 7) (nI (max 1 (k + z))) = -1 ↔ bgR σ (g.D q 7) (nI (max 1 (k + z))) < 0 := by
    rcases R.fit hq haq (L := max 1 (k + z)) (by omega) (by omega) with e | ⟨c, e, ec, -⟩
    · rw [e]; exact ⟨fun _ => by decide, fun _ => rfl⟩
    · rw [e]; exact ⟨fun h => absurd h (nI_m1 c (by omega)), fun h => absurd h (lt0_nI (by omega))⟩
  have h1 : hrfF (pstN σ g.x g.D p k) (g.D q) (g.D p 8) (g.D p 11) k kk = 0 ↔ ¬ fl1 σ g.m g.A p q k z w (bgR σ (g.D q 7) (nI (max 1 (k + z)))) = 0 := by
    unfold hrfF fl1 fl2
    rw [ecel, ebg, ec, N1, AU2, AU1]
    by_cases c1 : bgR σ (g.D q 7) (nI (max 1 (k + z))) = -1
    · rw [if_pos c1, if_pos (hm1.mp c1)]; exact ⟨fun _ => by decide, fun _ => rfl⟩
    · rw [if_neg c1, if_neg (fun h => c1 (hm1.mpr h))]
      by_cases c2 : w = 0
      · rw [if_neg (fun h => hkw.mp h c2), if_pos c2]; exact h3
      · rw [if_pos (hkw.mpr c2), if_neg c2]
        by_cases c3 : nI u + nI (max 1 (k + z)) ≤ 32
        · rw [if_pos c3, if_neg (Int32.not_lt.mpr c3)]; exact h3
        · rw [if_neg c3, if_pos (Int32.not_le.mp c3)]; exact ⟨fun _ => by decide, fun _ => rfl⟩
  unfold flF
  by_cases c : (g.L1 q).length < 12
  · rw [if_pos (hlen.mpr c), h1]
    exact ⟨fun h => Classical.not_not.mp h.2, fun h => ⟨fun h9 => by omega, fun h9 => h9 h⟩⟩
  · rw [if_neg (fun h => c (hlen.mp h))]
    by_cases c2 : y = 0
    · rw [if_pos c2]; exact ⟨fun h => absurd ⟨c2, by omega⟩ h.1, fun h => absurd h (by decide)⟩
    · rw [if_neg c2, h1]
      exact ⟨fun h => Classical.not_not.mp h.2, fun h => ⟨fun h9 => c2 h9.1, fun h9 => h9 h⟩⟩
end DEC
