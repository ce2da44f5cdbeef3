section MC
variable {E : FE} {g : Gh} {σ σ' σ2 τ τ' : Sg} {K J : Nat → Bool} {n n' m : Nat} {A : Nat → Nat}
theorem CEq.i {c x i : Nat} {v : Int32} (h : CEq A m τ τ') : CEq A m (sI τ c x i v) (sI τ' c x i v) := by
  refine ⟨h.1, fun c' x' i' hz => ?_⟩
  show (if c' = c ∧ x' = x ∧ i' = i then v else τ.1 c' x' i') = (if c' = c ∧ x' = x ∧ i' = i then v else τ'.1 c' x' i')
  split
  · rfl
  · exact h.2 c' x' i' hz
theorem CEq.o {c x i : Nat} {v : Option Nat} (h : CEq A m τ τ') : CEq A m (sO τ c x i v) (sO τ' c x i v) := by
  refine ⟨?_, h.2⟩
  show ((fun c' a' x' => if c' = c ∧ a' = x ∧ x' = i then v else τ.2.1 c' a' x', τ.2.2) : (Nat → Nat → Nat → Option Nat) × _) = (fun c' a' x' => if c' = c ∧ a' = x ∧ x' = i then v else τ'.2.1 c' a' x', τ'.2.2)
  rw [h.1]
theorem CEq.drop {h a1 a2 a3 i : Nat} (e : CEq A m τ τ') : CEq A m (dropS τ h a1 a2 a3 i) (dropS τ' h a1 a2 a3 i) := by
  unfold dropS
  rw [e.r (c := 130000) (by decide), e.r (c := 140000) (by decide), e.r (c := 80300) (by decide)]
  split
  · split
    · exact e.o.i
    · exact e
  · exact e
theorem lsF_C {D : Nat → Nat → Nat} {p a3 k : Nat} : COp A m (lsF D p a3 k) := by
  refine ⟨fun τ c x i hz => ?_, fun τ τ' e => ?_⟩
  · unfold lsF; rw [loseF_r (by have := hz.1; omega)]
  · unfold lsF loseF takeFromF
    rw [e.1, e.r (c := 130000) (by decide), e.r (c := 140000) (by decide)]
    split
    · exact e
    · split
      · exact e
      · rw [if_neg (by decide : ¬ (1 : Int32) = 0), if_neg (by decide : ¬ (1 : Int32) = 0)]
        split
        · exact e
        · exact e.i.drop
theorem arR_C {a a1 y c : Nat} : COp A m (fun τ => arR τ a a1 y c) := by
  refine ⟨fun τ c' x i hz => ?_, fun τ τ' e => ?_⟩
  · have := hz.1
    show (arR τ a a1 y c).1 c' x i = _
    unfold arR
    split
    · rw [rII (by omega), rII (by omega)]; rfl
    · rw [rII (by omega)]; rfl
  · show CEq A m (arR τ a a1 y c) (arR τ' a a1 y c)
    unfold arR
    rw [e.r (c := 60000) (by decide), e.r (c := 90100) (by decide), e.r (c := 90200) (by decide), e.r (c := 60400) (by decide)]
    split
    · exact e.o.i.i
    · exact e.o.i
def Th (m : Nat) (τ : Sg) : Sg := sI τ 500000 m 0 0
theorem Th_C {y : Nat} : COp A m (Th y) := COp.w (Nat.le_refl _) (fun _ _ _ => rfl)
theorem mlF_M {p b k : Nat} : MOp A m (mlF A p b k) := by
  have hH : ∀ τ τ', MEq A m τ τ' → mlH A p b τ k = mlH A p b τ' k := fun τ τ' e => by
    unfold mlH; rw [e.a (c := 550000) (j := 4) (by decide) (by decide), e.a (c := 560000) (j := 5) (by decide) (by decide), e.a (c := 540000) (j := 3) (by decide) (by decide), e.a (c := 710000) (j := 20) (by decide) (by decide)]
  refine ⟨fun τ => ?_, fun τ τ' e => ?_⟩
  · refine ⟨(mlF_r (c := 0) (by decide)).2, fun c x i hz => ?_⟩
    by_cases h5 : c = 550000
    · subst h5
      unfold mlF
      split
      · rfl
      · split
        · rfl
        · split
          · rfl
          · refine rIa ?_
            rintro rfl
            exact hz (plA (by decide) (by decide))
    · rw [(mlF_r h5).1]
  · unfold mlF
    rw [hH τ τ' e, e.a (c := 710000) (j := 20) (by decide) (by decide), e.a (c := 550000) (j := 4) (by decide) (by decide)]
    split
    · exact e
    · split
      · exact e
      · split
        · exact e
        · intro c x i hz
          show (if _ then _ else _) = (if _ then _ else _)
          split
          · rfl
          · exact e c x i hz
/-- which waiting message is next in the model -/
def nxF (sta fn tn : Nat → Int32) (fb : Int32) : Nat → Int32 → Int32 := fun w a => if sta w = 1 then (if fn w = fb then (if a < 0 then nI w else if tn w < tn a.toNatClampNeg then nI w else a) else a) else a
theorem nxt_none {sta fn tn : Nat → Int32} {fb : Int32} {p : Nat} (h : ∀ b, 64 * p ≤ b → b < 64 * p + 64 → sta b = 1 → fn b ≠ fb) : itF (nxF sta fn tn fb) 64 (64 * p) (-1) = -1 :=
  itF_ind (f := nxF sta fn tn fb) (fun _ v => v = -1) 64 (64 * p) (-1) rfl (fun j v h1 h2 hv => by
    unfold nxF
    by_cases z : sta j = 1
    · rw [if_pos z, if_neg (h j h1 h2 z)]; exact hv
    · rw [if_neg z]; exact hv)
theorem nxt_some {sta fn tn : Nat → Int32} {fb : Int32} {p b0 : Nat} (hp : p < 4) (h1 : 64 * p ≤ b0) (h2 : b0 < 64 * p + 64) (h3 : sta b0 = 1) (h4 : fn b0 = fb) (h5 : ∀ b, 64 * p ≤ b → b < 64 * p + 64 → sta b = 1 → fn b = fb → b ≠ b0 → tn b0 < tn b) : itF (nxF sta fn tn fb) 64 (64 * p) (-1) = nI b0 := by
  have key := itF_ind (f := nxF sta fn tn fb) (fun j v => (v = -1 ∧ ∀ i, 64 * p ≤ i → i < j → ¬ (sta i = 1 ∧ fn i = fb)) ∨ ∃ b', v = nI b' ∧ 64 * p ≤ b' ∧ b' < 64 * p + 64 ∧ b' < j ∧ sta b' = 1 ∧ fn b' = fb ∧ ∀ i, 64 * p ≤ i → i < j → sta i = 1 → fn i = fb → ¬ tn i < tn b') 64 (64 * p) (-1) (Or.inl ⟨rfl, fun i a b => by omega⟩) (fun j v j1 j2 hv => by
    unfold nxF
    by_cases z : sta j = 1 ∧ fn j = fb
    · rw [if_pos z.1, if_pos z.2]
      rcases hv with ⟨rfl, hn⟩ | ⟨b', rfl, q1, q2, q3, q4, q5, q6⟩
      · rw [if_pos (by decide)]
        refine Or.inr ⟨j, rfl, j1, j2, by omega, z.1, z.2, fun i i1 i2 i3 i4 => ?_⟩
        by_cases e : i = j
        · subst e; rw [Int32.lt_iff_toInt_lt]; omega
        · exact absurd ⟨i3, i4⟩ (hn i i1 (by omega))
      · rw [if_neg (lt0_nI (by omega)), nI_clamp (by omega)]
        by_cases y : tn j < tn b'
        · rw [if_pos y]
          refine Or.inr ⟨j, rfl, j1, j2, by omega, z.1, z.2, fun i i1 i2 i3 i4 => ?_⟩
          by_cases e : i = j
          · subst e; rw [Int32.lt_iff_toInt_lt]; omega
          · have := q6 i i1 (by omega) i3 i4
            rw [Int32.lt_iff_toInt_lt] at this y ⊢; omega
        · rw [if_neg y]
          refine Or.inr ⟨b', rfl, q1, q2, by omega, q4, q5, fun i i1 i2 i3 i4 => ?_⟩
          by_cases e : i = j
          · subst e; exact y
          · exact q6 i i1 (by omega) i3 i4
    · have e : (if sta j = 1 then (if fn j = fb then (if v < 0 then nI j else if tn j < tn v.toNatClampNeg then nI j else v) else v) else v) = v := by
        by_cases z1 : sta j = 1
        · rw [if_pos z1, if_neg (fun y => z ⟨z1, y⟩)]
        · rw [if_neg z1]
      rw [e]
      rcases hv with ⟨rfl, hn⟩ | ⟨b', rfl, q1, q2, q3, q4, q5, q6⟩
      · refine Or.inl ⟨rfl, fun i i1 i2 => ?_⟩
        by_cases e : i = j
        · subst e; exact z
        · exact hn i i1 (by omega)
      · refine Or.inr ⟨b', rfl, q1, q2, by omega, q4, q5, fun i i1 i2 i3 i4 => ?_⟩
        by_cases e : i = j
        · subst e; exact absurd ⟨i3, i4⟩ z
        · exact q6 i i1 (by omega) i3 i4)
  rcases key with ⟨-, hn⟩ | ⟨b', hv, q1, q2, q3, q4, q5, q6⟩
  · exact absurd ⟨h3, h4⟩ (hn b0 h1 (by omega))
  · rw [hv]
    by_cases e : b' = b0
    · rw [e]
    · exact absurd (h5 b' q1 q2 q4 q5 e) (q6 b0 h1 (by omega) h3 h4)
/-- .. by the list of those that wait -/
theorem RR.nxt {p a : Nat} (R : RR E g n σ) (hn : n ≤ 512) (hp : p < 4) (ha : al g σ p) (ha3 : σ.2.2.2 a = 3) (hd : σ.1 30200 a 0 = 0) (hw : σ.1 30000 a 0 = nI p) : itF (nxF (σ.1 610000 (g.A 10)) (σ.1 650000 (g.A 14)) (σ.1 670000 (g.A 16)) (nI (g.N a))) 64 (64 * p) (-1) = (match g.Q a with
    | [] => -1
    | mm :: _ => nI (g.B mm)) := by
  obtain ⟨A, AM, -⟩ := (R.a p hp).1 ha
  obtain ⟨h1, h2, h3, h4, h5, h6, h7⟩ := R.q.1 a p ha3 hd hp hw
  have nb : ∀ {x}, σ.2.2.2 x = 3 → g.N x < 2 ^ 31 := fun h => by have := R.no.ok R.p (by omega) h; omega
  have row : ∀ b, 64 * p ≤ b → b < 64 * p + 64 → σ.1 610000 (g.A 10) b = 1 → σ.1 650000 (g.A 14) b = nI (g.N a) → ∃ m, m ∈ g.Q a ∧ g.B m = b := by
    intro b b1 b2 b3 b4
    obtain ⟨c, m, hc, hm, rfl⟩ := A.2 b b1 b2 (by rw [b3]; decide)
    obtain ⟨k, s', l, it, t, T, a1, a2, a3, x1, x2, x3, x4, x5, x6, x7, x8, x9, x10, x11, x12, x13, x14, -⟩ := AM c m hc hm
    have hk := R.q.2 p c m hp ha hc hm b3
    rcases x14 with ⟨-, y2⟩ | ⟨x, y1, y2⟩
    · rw [b4] at y2; exact absurd y2 (nI_m1 _ (nb ha3))
    · have x3' := R.s.wf _ _ _ _ y1 (by decide)
      have : x = a := R.no.2.1 x a x3' ha3 ((nI_eq (nb x3') (nb ha3)).mp (y2.symm.trans b4))
      subst this
      exact ⟨m, h5 c m ⟨hc, hm, hk, y1⟩ b3, rfl⟩
  cases e : g.Q a with
  | nil =>
    exact nxt_none (fun b b1 b2 b3 b4 => by
      obtain ⟨m, hm, -⟩ := row b b1 b2 b3 b4
      rw [e] at hm; cases hm)
  | cons mm t =>
    obtain ⟨c, hc, hs⟩ := h3 mm (by rw [e]; exact List.mem_cons_self)
    obtain ⟨y1, y2, -⟩ := A.1 c mm hc.1 hc.2.1
    have hfn : σ.1 650000 (g.A 14) (g.B mm) = nI (g.N a) := by
      obtain ⟨k, s', l, it, t, T, a1, a2, a3, x1, x2, x3, x4, x5, x6, x7, x8, x9, x10, x11, x12, x13, x14, -⟩ := AM c mm hc.1 hc.2.1
      rcases x14 with ⟨z, -⟩ | ⟨x, z1, z2⟩
      · rw [hc.2.2.2] at z; cases z
      · rw [hc.2.2.2] at z1; cases z1; exact z2
    refine nxt_some hp y1 y2 hs hfn (fun b b1 b2 b3 b4 hne => ?_)
    obtain ⟨m', hm', rfl⟩ := row b b1 b2 b3 b4
    rw [e] at hm' h4
    rcases List.mem_cons.mp hm' with z | z
    · exact absurd (by rw [z]) hne
    · exact (List.pairwise_cons.mp h4).1 m' z
end MC
