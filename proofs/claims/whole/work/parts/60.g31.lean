section FRM
variable {E : FE} {g : Gh} {σ σ' σ2 : Sg} {K J : Nat → Bool} {n n' : Nat}
/-- where the best gap lies -/
theorem AreaR.fit {p : Nat} {bg : Nat → Option Nat} {cl : Nat → Int32} {B : Nat → Nat} {sta beg len : Nat → Int32} (h : AreaR p bg cl B sta beg len) {L : Nat} (hL : 1 ≤ L) (hL2 : L ≤ 64) :
    (itF (bgF bg cl (nI L)) 65 0 (-1, 65, 0)).1 = -1 ∨ ∃ b, (itF (bgF bg cl (nI L)) 65 0 (-1, 65, 0)).1 = nI b ∧ b + L ≤ 64 ∧ (∀ c, b ≤ c → c < b + L → bg c = none) ∧ ∀ c m l, c < b → bg c = some m → cl m = nI l → l ≤ 64 → c + l ≤ b := by
  have q : ∀ {c m l}, c < 64 → bg c = some m → cl m = nI l → l ≤ 64 → 1 ≤ l ∧ c + l ≤ 64 ∧ ∀ c', c < c' → c' < c + l → bg c' = none := by
    intro c m l hc hm hl hl2
    obtain ⟨-, -, -, -, -, L', y6, y7, y8, y9⟩ := h.1 c m hc hm
    have : L' = l := (nI_eq (by omega) (by omega)).mp (y6.symm.trans hl)
    subst this
    exact ⟨y7, y8, y9⟩
  have q2 : ∀ {c m}, c < 64 → bg c = some m → ∃ l, cl m = nI l ∧ l ≤ 64 ∧ 1 ≤ l ∧ c + l ≤ 64 := by
    intro c m hc hm
    obtain ⟨-, -, -, -, -, L', y6, y7, y8, y9⟩ := h.1 c m hc hm
    exact ⟨L', y6, by omega, y7, y8⟩
  have gen := itF_ind (f := bgF bg cl (nI L)) (fun i (s : Int32 × Int32 × Int32) => (∃ f, s.2.2 = nI f ∧ f ≤ 64 ∧ (i = 65 ∨ ((∀ c m l, c < i → c < 64 → bg c = some m → cl m = nI l → l ≤ 64 → c + l ≤ f) ∧ (∀ c, i ≤ c → c < f → bg c = none)))) ∧ (s.1 = -1 ∨ ∃ b, s.1 = nI b ∧ b + L ≤ 64 ∧ (∀ c, b ≤ c → c < b + L → bg c = none) ∧ ∀ c m l, c < b → bg c = some m → cl m = nI l → l ≤ 64 → c + l ≤ b)) 65 0 (-1, 65, 0) ⟨⟨0, rfl, by omega, Or.inr ⟨fun c m l hc => by omega, fun c _ hc => by omega⟩⟩, Or.inl rfl⟩ (fun i s i1 i2 hs => by
    obtain ⟨⟨f, f1, f2, f3⟩, hb⟩ := hs
    rcases f3 with f3 | ⟨f3, f4⟩
    · omega
    have cand : f ≤ i → i ≤ 64 → L ≤ i - f → f + L ≤ 64 ∧ (∀ c, f ≤ c → c < f + L → bg c = none) ∧ ∀ c m l, c < f → bg c = some m → cl m = nI l → l ≤ 64 → c + l ≤ f := by
      intro h1 h2 h3
      refine ⟨by omega, fun c c1 c2 => ?_, fun c m l c1 hm hl hl2 => f3 c m l (by omega) (by omega) hm hl hl2⟩
      cases e : bg c with
      | none => rfl
      | some m =>
        obtain ⟨l, l1, l2, l3, l4⟩ := q2 (by omega) e
        have := f3 c m l (by omega) (by omega) e l1 l2
        omega
    unfold bgF
    by_cases c64 : i = 64
    · subst c64
      rw [if_pos rfl, f1, pk_sub (by omega)]
      by_cases z : nI (64 - f) < nI L
      · rw [if_pos z]; exact ⟨⟨f, f1, f2, Or.inl rfl⟩, hb⟩
      · rw [if_neg z]
        by_cases y : nI (64 - f) ≥ s.2.1
        · rw [if_pos y]; exact ⟨⟨f, f1, f2, Or.inl rfl⟩, hb⟩
        · rw [if_neg y]
          rw [nI_ltI (by omega) (by omega)] at z
          exact ⟨⟨f, rfl, f2, Or.inl rfl⟩, Or.inr ⟨f, rfl, cand (by omega) (by omega) (by omega)⟩⟩
    · rw [if_neg c64]
      cases e : bg i with
      | none =>
        refine ⟨⟨f, f1, f2, Or.inr ⟨fun c m l c1 c2 hm hl hl2 => ?_, fun c c1 c2 => f4 c (by omega) c2⟩⟩, hb⟩
        by_cases ec : c = i
        · subst ec; rw [e] at hm; cases hm
        · exact f3 c m l (by omega) c2 hm hl hl2
      | some m =>
        obtain ⟨l, l1, l2, l3, l4⟩ := q2 (by omega) e
        have hfi : f ≤ i := by
          by_cases z : f ≤ i
          · exact z
          · have := f4 i (Nat.le_refl _) (by omega)
            rw [e] at this; cases this
        have nf : ∃ f', nI i + cl m = nI f' ∧ f' ≤ 64 ∧ (i + 1 = 65 ∨ ((∀ c m l, c < i + 1 → c < 64 → bg c = some m → cl m = nI l → l ≤ 64 → c + l ≤ f') ∧ (∀ c, i + 1 ≤ c → c < f' → bg c = none))) := by
          refine ⟨i + l, by rw [l1, nI_add], l4, Or.inr ⟨fun c m' l' c1 c2 hm hl hl2 => ?_, fun c c1 c2 => (q (by omega) e l1 l2).2.2 c (by omega) c2⟩⟩
          by_cases ec : c = i
          · subst ec
            rw [e] at hm; cases hm
            have : l = l' := (nI_eq (by omega) (by omega)).mp (l1.symm.trans hl)
            omega
          · have := f3 c m' l' (by omega) c2 hm hl hl2
            omega
        dsimp only
        rw [f1, pk_sub hfi]
        by_cases z : nI (i - f) < nI L
        · rw [if_pos z]; exact ⟨nf, hb⟩
        · rw [if_neg z]
          by_cases y : nI (i - f) ≥ s.2.1
          · rw [if_pos y]; exact ⟨nf, hb⟩
          · rw [if_neg y]
            rw [nI_ltI (by omega) (by omega)] at z
            exact ⟨nf, Or.inr ⟨f, rfl, cand hfi (by omega) (by omega)⟩⟩)
  exact gen.2
def KLk : List Nat := [500000, 150006, 90100, 90200, 30300, 30406, 30506, 61106, 610000, 620000, 630000, 640000, 650000, 660000, 670000, 680000, 690000, 700000, 710000, 502300]
def KLp : List Nat := [500000, 30300, 30406, 30506, 61106, 502300]
def gq (g : Gh) (Q : Nat → List Nat) : Gh := (Gh.mk g.x g.a0 g.m g.D g.A g.N g.B (Q) g.L1 g.L2 g.L3 g.lv)
/-- the message m joins the area of q, at the cell c, with its row -/
def Lnk (g : Gh) (q m c : Nat) (k s l it L T a1 a2 a3 : Nat) (st : Int32) (σ σ2 : Sg) : Prop := (σ.2.2.2 m = 6) ∧ (∀ r c', r < 4 → c' < 64 → σ.2.1 150006 (g.D r 7) c' ≠ some m) ∧ (c + L ≤ 64) ∧ (1 ≤ L) ∧ (∀ c', c ≤ c' → c' < c + L → σ.2.1 150006 (g.D q 7) c' = none) ∧ (∀ c' m' l', c' < c → σ.2.1 150006 (g.D q 7) c' = some m' → σ.1 60400 m' 0 = nI l' → l' ≤ 64 → c' + l' ≤ c) ∧ (64 * q ≤ g.B m) ∧ (g.B m < 64 * q + 64) ∧ (σ.1 610000 (g.A 10) (g.B m) ≤ 0) ∧ (1 ≤ k) ∧ (k ≤ 3) ∧ (σ.1 60000 m 0 = nI k) ∧ (σ.1 60100 m 0 = nI s) ∧ (s < 4) ∧ (σ.1 60200 m 0 = nI l) ∧ (l ≤ g.lv s) ∧ (k = 3 ↔ σ.2.1 60303 m 0 = none) ∧ (∀ a, σ.2.1 60303 m 0 = some a → σ.1 30200 a 0 = 0 ∧ σ.1 30000 a 0 = nI q) ∧ (σ.1 60400 m 0 = nI L) ∧ (σ.1 60500 m 0 = nI it) ∧ (it ≤ 4) ∧ (σ.2.1 60631 m 0 = some a1) ∧ (σ.2.1 60732 m 0 = some a2) ∧ (σ.2.1 60833 m 0 = some a3) ∧ (σ.1 319900 a1 0 = nI it) ∧ (σ.1 329900 a2 0 = nI it) ∧ (σ.1 339900 a3 0 = nI it) ∧ (σ.1 60900 m 0 = nI c) ∧ (σ.1 61000 m 0 = 0) ∧ (Fr (fun c => KLk.contains c) (fun _ => false) σ σ2) ∧ (∀ r, r ≠ q → FrP g r (fun c => KLp.contains c) (fun _ => false) σ σ2) ∧ (WF σ2) ∧ (σ2.2.1 150006 (g.D q 7) c = some m) ∧ (∀ c', c' ≠ c → σ2.2.1 150006 (g.D q 7) c' = σ.2.1 150006 (g.D q 7) c') ∧ (st = 1 ∨ st = 2) ∧ (σ2.1 610000 (g.A 10) (g.B m) = st) ∧ (σ2.1 620000 (g.A 11) (g.B m) = nI c) ∧ (σ2.1 630000 (g.A 12) (g.B m) = nI L) ∧ (σ2.1 640000 (g.A 13) (g.B m) = if k = 2 then 1 else 0) ∧ (NR g.N (σ.2.1 60303 m 0) (σ2.1 650000 (g.A 14) (g.B m))) ∧ (σ2.1 660000 (g.A 15) (g.B m) = nI s) ∧ (σ2.1 670000 (g.A 16) (g.B m) = nI T) ∧ (σ2.1 680000 (g.A 17) (g.B m) = nI it) ∧ (∀ i, i < it → σ.1 310000 a1 i = σ2.1 690000 (g.A 18) (4 * g.B m + i) ∧ σ.1 320000 a2 i = σ2.1 700000 (g.A 19) (4 * g.B m + i) ∧ NR g.N (σ.2.1 330003 a3 i) (σ2.1 710000 (g.A 20) (4 * g.B m + i))) ∧ (∀ b, b ≠ g.B m → σ2.1 610000 (g.A 10) b = σ.1 610000 (g.A 10) b ∧ σ2.1 620000 (g.A 11) b = σ.1 620000 (g.A 11) b ∧ σ2.1 630000 (g.A 12) b = σ.1 630000 (g.A 12) b ∧ σ2.1 640000 (g.A 13) b = σ.1 640000 (g.A 13) b ∧ σ2.1 650000 (g.A 14) b = σ.1 650000 (g.A 14) b ∧ σ2.1 660000 (g.A 15) b = σ.1 660000 (g.A 15) b ∧ σ2.1 670000 (g.A 16) b = σ.1 670000 (g.A 16) b ∧ σ2.1 680000 (g.A 17) b = σ.1 680000 (g.A 17) b) ∧ (∀ b i, b ≠ g.B m → i < 4 → σ2.1 690000 (g.A 18) (4 * b + i) = σ.1 690000 (g.A 18) (4 * b + i) ∧ σ2.1 700000 (g.A 19) (4 * b + i) = σ.1 700000 (g.A 19) (4 * b + i) ∧ σ2.1 710000 (g.A 20) (4 * b + i) = σ.1 710000 (g.A 20) (4 * b + i)) ∧ (σ.1 502300 g.m 0 = nI T) ∧ (σ2.1 502300 g.m 0 = nI (T + 1)) ∧ (σ2.1 90100 (g.D q 6) 0 = σ.1 90100 (g.D q 6) 0 + nI L) ∧ (σ2.1 90200 (g.D q 6) 0 = if k = 2 then σ.1 90200 (g.D q 6) 0 + nI L else σ.1 90200 (g.D q 6) 0) ∧ (k = 2 → ∀ u, σ.1 90200 (g.D q 6) 0 = nI u → u ≤ 32 → u + L ≤ 32)
theorem Lnk.m6 {g : Gh} {q m c : Nat} {k s l it L T a1 a2 a3 : Nat} {st : Int32} {σ σ2 : Sg} (h9 : Lnk g q m c k s l it L T a1 a2 a3 st σ σ2) : σ.2.2.2 m = 6 := h9.1
theorem Lnk.un {g : Gh} {q m c : Nat} {k s l it L T a1 a2 a3 : Nat} {st : Int32} {σ σ2 : Sg} (h9 : Lnk g q m c k s l it L T a1 a2 a3 st σ σ2) : ∀ r c', r < 4 → c' < 64 → σ.2.1 150006 (g.D r 7) c' ≠ some m := h9.2.1
theorem Lnk.c64 {g : Gh} {q m c : Nat} {k s l it L T a1 a2 a3 : Nat} {st : Int32} {σ σ2 : Sg} (h9 : Lnk g q m c k s l it L T a1 a2 a3 st σ σ2) : c + L ≤ 64 := h9.2.2.1
theorem Lnk.L1 {g : Gh} {q m c : Nat} {k s l it L T a1 a2 a3 : Nat} {st : Int32} {σ σ2 : Sg} (h9 : Lnk g q m c k s l it L T a1 a2 a3 st σ σ2) : 1 ≤ L := h9.2.2.2.1
theorem Lnk.fr {g : Gh} {q m c : Nat} {k s l it L T a1 a2 a3 : Nat} {st : Int32} {σ σ2 : Sg} (h9 : Lnk g q m c k s l it L T a1 a2 a3 st σ σ2) : ∀ c', c ≤ c' → c' < c + L → σ.2.1 150006 (g.D q 7) c' = none := h9.2.2.2.2.1
theorem Lnk.cv {g : Gh} {q m c : Nat} {k s l it L T a1 a2 a3 : Nat} {st : Int32} {σ σ2 : Sg} (h9 : Lnk g q m c k s l it L T a1 a2 a3 st σ σ2) : ∀ c' m' l', c' < c → σ.2.1 150006 (g.D q 7) c' = some m' → σ.1 60400 m' 0 = nI l' → l' ≤ 64 → c' + l' ≤ c := h9.2.2.2.2.2.1
theorem Lnk.b1 {g : Gh} {q m c : Nat} {k s l it L T a1 a2 a3 : Nat} {st : Int32} {σ σ2 : Sg} (h9 : Lnk g q m c k s l it L T a1 a2 a3 st σ σ2) : 64 * q ≤ g.B m := h9.2.2.2.2.2.2.1
theorem Lnk.b2 {g : Gh} {q m c : Nat} {k s l it L T a1 a2 a3 : Nat} {st : Int32} {σ σ2 : Sg} (h9 : Lnk g q m c k s l it L T a1 a2 a3 st σ σ2) : g.B m < 64 * q + 64 := h9.2.2.2.2.2.2.2.1
theorem Lnk.b0 {g : Gh} {q m c : Nat} {k s l it L T a1 a2 a3 : Nat} {st : Int32} {σ σ2 : Sg} (h9 : Lnk g q m c k s l it L T a1 a2 a3 st σ σ2) : σ.1 610000 (g.A 10) (g.B m) ≤ 0 := h9.2.2.2.2.2.2.2.2.1
theorem Lnk.k0 {g : Gh} {q m c : Nat} {k s l it L T a1 a2 a3 : Nat} {st : Int32} {σ σ2 : Sg} (h9 : Lnk g q m c k s l it L T a1 a2 a3 st σ σ2) : 1 ≤ k := h9.2.2.2.2.2.2.2.2.2.1
theorem Lnk.k3 {g : Gh} {q m c : Nat} {k s l it L T a1 a2 a3 : Nat} {st : Int32} {σ σ2 : Sg} (h9 : Lnk g q m c k s l it L T a1 a2 a3 st σ σ2) : k ≤ 3 := h9.2.2.2.2.2.2.2.2.2.2.1
theorem Lnk.f0 {g : Gh} {q m c : Nat} {k s l it L T a1 a2 a3 : Nat} {st : Int32} {σ σ2 : Sg} (h9 : Lnk g q m c k s l it L T a1 a2 a3 st σ σ2) : σ.1 60000 m 0 = nI k := h9.2.2.2.2.2.2.2.2.2.2.2.1
theorem Lnk.f1 {g : Gh} {q m c : Nat} {k s l it L T a1 a2 a3 : Nat} {st : Int32} {σ σ2 : Sg} (h9 : Lnk g q m c k s l it L T a1 a2 a3 st σ σ2) : σ.1 60100 m 0 = nI s := h9.2.2.2.2.2.2.2.2.2.2.2.2.1
theorem Lnk.s4 {g : Gh} {q m c : Nat} {k s l it L T a1 a2 a3 : Nat} {st : Int32} {σ σ2 : Sg} (h9 : Lnk g q m c k s l it L T a1 a2 a3 st σ σ2) : s < 4 := h9.2.2.2.2.2.2.2.2.2.2.2.2.2.1
theorem Lnk.f2 {g : Gh} {q m c : Nat} {k s l it L T a1 a2 a3 : Nat} {st : Int32} {σ σ2 : Sg} (h9 : Lnk g q m c k s l it L T a1 a2 a3 st σ σ2) : σ.1 60200 m 0 = nI l := h9.2.2.2.2.2.2.2.2.2.2.2.2.2.2.1
theorem Lnk.ll {g : Gh} {q m c : Nat} {k s l it L T a1 a2 a3 : Nat} {st : Int32} {σ σ2 : Sg} (h9 : Lnk g q m c k s l it L T a1 a2 a3 st σ σ2) : l ≤ g.lv s := h9.2.2.2.2.2.2.2.2.2.2.2.2.2.2.2.1
theorem Lnk.f3 {g : Gh} {q m c : Nat} {k s l it L T a1 a2 a3 : Nat} {st : Int32} {σ σ2 : Sg} (h9 : Lnk g q m c k s l it L T a1 a2 a3 st σ σ2) : k = 3 ↔ σ.2.1 60303 m 0 = none := h9.2.2.2.2.2.2.2.2.2.2.2.2.2.2.2.2.1
theorem Lnk.f3a {g : Gh} {q m c : Nat} {k s l it L T a1 a2 a3 : Nat} {st : Int32} {σ σ2 : Sg} (h9 : Lnk g q m c k s l it L T a1 a2 a3 st σ σ2) : ∀ a, σ.2.1 60303 m 0 = some a → σ.1 30200 a 0 = 0 ∧ σ.1 30000 a 0 = nI q := h9.2.2.2.2.2.2.2.2.2.2.2.2.2.2.2.2.2.1
theorem Lnk.f4 {g : Gh} {q m c : Nat} {k s l it L T a1 a2 a3 : Nat} {st : Int32} {σ σ2 : Sg} (h9 : Lnk g q m c k s l it L T a1 a2 a3 st σ σ2) : σ.1 60400 m 0 = nI L := h9.2.2.2.2.2.2.2.2.2.2.2.2.2.2.2.2.2.2.1
theorem Lnk.f5 {g : Gh} {q m c : Nat} {k s l it L T a1 a2 a3 : Nat} {st : Int32} {σ σ2 : Sg} (h9 : Lnk g q m c k s l it L T a1 a2 a3 st σ σ2) : σ.1 60500 m 0 = nI it := h9.2.2.2.2.2.2.2.2.2.2.2.2.2.2.2.2.2.2.2.1
theorem Lnk.i4 {g : Gh} {q m c : Nat} {k s l it L T a1 a2 a3 : Nat} {st : Int32} {σ σ2 : Sg} (h9 : Lnk g q m c k s l it L T a1 a2 a3 st σ σ2) : it ≤ 4 := h9.2.2.2.2.2.2.2.2.2.2.2.2.2.2.2.2.2.2.2.2.1
theorem Lnk.f6 {g : Gh} {q m c : Nat} {k s l it L T a1 a2 a3 : Nat} {st : Int32} {σ σ2 : Sg} (h9 : Lnk g q m c k s l it L T a1 a2 a3 st σ σ2) : σ.2.1 60631 m 0 = some a1 := h9.2.2.2.2.2.2.2.2.2.2.2.2.2.2.2.2.2.2.2.2.2.1
theorem Lnk.f7 {g : Gh} {q m c : Nat} {k s l it L T a1 a2 a3 : Nat} {st : Int32} {σ σ2 : Sg} (h9 : Lnk g q m c k s l it L T a1 a2 a3 st σ σ2) : σ.2.1 60732 m 0 = some a2 := h9.2.2.2.2.2.2.2.2.2.2.2.2.2.2.2.2.2.2.2.2.2.2.1
theorem Lnk.f8 {g : Gh} {q m c : Nat} {k s l it L T a1 a2 a3 : Nat} {st : Int32} {σ σ2 : Sg} (h9 : Lnk g q m c k s l it L T a1 a2 a3 st σ σ2) : σ.2.1 60833 m 0 = some a3 := h9.2.2.2.2.2.2.2.2.2.2.2.2.2.2.2.2.2.2.2.2.2.2.2.1
theorem Lnk.f6l {g : Gh} {q m c : Nat} {k s l it L T a1 a2 a3 : Nat} {st : Int32} {σ σ2 : Sg} (h9 : Lnk g q m c k s l it L T a1 a2 a3 st σ σ2) : σ.1 319900 a1 0 = nI it := h9.2.2.2.2.2.2.2.2.2.2.2.2.2.2.2.2.2.2.2.2.2.2.2.2.1
theorem Lnk.f7l {g : Gh} {q m c : Nat} {k s l it L T a1 a2 a3 : Nat} {st : Int32} {σ σ2 : Sg} (h9 : Lnk g q m c k s l it L T a1 a2 a3 st σ σ2) : σ.1 329900 a2 0 = nI it := h9.2.2.2.2.2.2.2.2.2.2.2.2.2.2.2.2.2.2.2.2.2.2.2.2.2.1
theorem Lnk.f8l {g : Gh} {q m c : Nat} {k s l it L T a1 a2 a3 : Nat} {st : Int32} {σ σ2 : Sg} (h9 : Lnk g q m c k s l it L T a1 a2 a3 st σ σ2) : σ.1 339900 a3 0 = nI it := h9.2.2.2.2.2.2.2.2.2.2.2.2.2.2.2.2.2.2.2.2.2.2.2.2.2.2.1
theorem Lnk.f9 {g : Gh} {q m c : Nat} {k s l it L T a1 a2 a3 : Nat} {st : Int32} {σ σ2 : Sg} (h9 : Lnk g q m c k s l it L T a1 a2 a3 st σ σ2) : σ.1 60900 m 0 = nI c := h9.2.2.2.2.2.2.2.2.2.2.2.2.2.2.2.2.2.2.2.2.2.2.2.2.2.2.2.1
theorem Lnk.f10 {g : Gh} {q m c : Nat} {k s l it L T a1 a2 a3 : Nat} {st : Int32} {σ σ2 : Sg} (h9 : Lnk g q m c k s l it L T a1 a2 a3 st σ σ2) : σ.1 61000 m 0 = 0 := h9.2.2.2.2.2.2.2.2.2.2.2.2.2.2.2.2.2.2.2.2.2.2.2.2.2.2.2.2.1
theorem Lnk.F {g : Gh} {q m c : Nat} {k s l it L T a1 a2 a3 : Nat} {st : Int32} {σ σ2 : Sg} (h9 : Lnk g q m c k s l it L T a1 a2 a3 st σ σ2) : Fr (fun c => KLk.contains c) (fun _ => false) σ σ2 := h9.2.2.2.2.2.2.2.2.2.2.2.2.2.2.2.2.2.2.2.2.2.2.2.2.2.2.2.2.2.1
theorem Lnk.FP {g : Gh} {q m c : Nat} {k s l it L T a1 a2 a3 : Nat} {st : Int32} {σ σ2 : Sg} (h9 : Lnk g q m c k s l it L T a1 a2 a3 st σ σ2) : ∀ r, r ≠ q → FrP g r (fun c => KLp.contains c) (fun _ => false) σ σ2 := h9.2.2.2.2.2.2.2.2.2.2.2.2.2.2.2.2.2.2.2.2.2.2.2.2.2.2.2.2.2.2.1
theorem Lnk.wf {g : Gh} {q m c : Nat} {k s l it L T a1 a2 a3 : Nat} {st : Int32} {σ σ2 : Sg} (h9 : Lnk g q m c k s l it L T a1 a2 a3 st σ σ2) : WF σ2 := h9.2.2.2.2.2.2.2.2.2.2.2.2.2.2.2.2.2.2.2.2.2.2.2.2.2.2.2.2.2.2.2.1
theorem Lnk.e1 {g : Gh} {q m c : Nat} {k s l it L T a1 a2 a3 : Nat} {st : Int32} {σ σ2 : Sg} (h9 : Lnk g q m c k s l it L T a1 a2 a3 st σ σ2) : σ2.2.1 150006 (g.D q 7) c = some m := h9.2.2.2.2.2.2.2.2.2.2.2.2.2.2.2.2.2.2.2.2.2.2.2.2.2.2.2.2.2.2.2.2.1
theorem Lnk.e2 {g : Gh} {q m c : Nat} {k s l it L T a1 a2 a3 : Nat} {st : Int32} {σ σ2 : Sg} (h9 : Lnk g q m c k s l it L T a1 a2 a3 st σ σ2) : ∀ c', c' ≠ c → σ2.2.1 150006 (g.D q 7) c' = σ.2.1 150006 (g.D q 7) c' := h9.2.2.2.2.2.2.2.2.2.2.2.2.2.2.2.2.2.2.2.2.2.2.2.2.2.2.2.2.2.2.2.2.2.1
theorem Lnk.st12 {g : Gh} {q m c : Nat} {k s l it L T a1 a2 a3 : Nat} {st : Int32} {σ σ2 : Sg} (h9 : Lnk g q m c k s l it L T a1 a2 a3 st σ σ2) : st = 1 ∨ st = 2 := h9.2.2.2.2.2.2.2.2.2.2.2.2.2.2.2.2.2.2.2.2.2.2.2.2.2.2.2.2.2.2.2.2.2.2.1
theorem Lnk.r0 {g : Gh} {q m c : Nat} {k s l it L T a1 a2 a3 : Nat} {st : Int32} {σ σ2 : Sg} (h9 : Lnk g q m c k s l it L T a1 a2 a3 st σ σ2) : σ2.1 610000 (g.A 10) (g.B m) = st := h9.2.2.2.2.2.2.2.2.2.2.2.2.2.2.2.2.2.2.2.2.2.2.2.2.2.2.2.2.2.2.2.2.2.2.2.1
theorem Lnk.r1 {g : Gh} {q m c : Nat} {k s l it L T a1 a2 a3 : Nat} {st : Int32} {σ σ2 : Sg} (h9 : Lnk g q m c k s l it L T a1 a2 a3 st σ σ2) : σ2.1 620000 (g.A 11) (g.B m) = nI c := h9.2.2.2.2.2.2.2.2.2.2.2.2.2.2.2.2.2.2.2.2.2.2.2.2.2.2.2.2.2.2.2.2.2.2.2.2.1
theorem Lnk.r2 {g : Gh} {q m c : Nat} {k s l it L T a1 a2 a3 : Nat} {st : Int32} {σ σ2 : Sg} (h9 : Lnk g q m c k s l it L T a1 a2 a3 st σ σ2) : σ2.1 630000 (g.A 12) (g.B m) = nI L := h9.2.2.2.2.2.2.2.2.2.2.2.2.2.2.2.2.2.2.2.2.2.2.2.2.2.2.2.2.2.2.2.2.2.2.2.2.2.1
theorem Lnk.r3 {g : Gh} {q m c : Nat} {k s l it L T a1 a2 a3 : Nat} {st : Int32} {σ σ2 : Sg} (h9 : Lnk g q m c k s l it L T a1 a2 a3 st σ σ2) : σ2.1 640000 (g.A 13) (g.B m) = if k = 2 then 1 else 0 := h9.2.2.2.2.2.2.2.2.2.2.2.2.2.2.2.2.2.2.2.2.2.2.2.2.2.2.2.2.2.2.2.2.2.2.2.2.2.2.1
theorem Lnk.r4 {g : Gh} {q m c : Nat} {k s l it L T a1 a2 a3 : Nat} {st : Int32} {σ σ2 : Sg} (h9 : Lnk g q m c k s l it L T a1 a2 a3 st σ σ2) : NR g.N (σ.2.1 60303 m 0) (σ2.1 650000 (g.A 14) (g.B m)) := h9.2.2.2.2.2.2.2.2.2.2.2.2.2.2.2.2.2.2.2.2.2.2.2.2.2.2.2.2.2.2.2.2.2.2.2.2.2.2.2.1
theorem Lnk.r5 {g : Gh} {q m c : Nat} {k s l it L T a1 a2 a3 : Nat} {st : Int32} {σ σ2 : Sg} (h9 : Lnk g q m c k s l it L T a1 a2 a3 st σ σ2) : σ2.1 660000 (g.A 15) (g.B m) = nI s := h9.2.2.2.2.2.2.2.2.2.2.2.2.2.2.2.2.2.2.2.2.2.2.2.2.2.2.2.2.2.2.2.2.2.2.2.2.2.2.2.2.1
theorem Lnk.r6 {g : Gh} {q m c : Nat} {k s l it L T a1 a2 a3 : Nat} {st : Int32} {σ σ2 : Sg} (h9 : Lnk g q m c k s l it L T a1 a2 a3 st σ σ2) : σ2.1 670000 (g.A 16) (g.B m) = nI T := h9.2.2.2.2.2.2.2.2.2.2.2.2.2.2.2.2.2.2.2.2.2.2.2.2.2.2.2.2.2.2.2.2.2.2.2.2.2.2.2.2.2.1
theorem Lnk.r7 {g : Gh} {q m c : Nat} {k s l it L T a1 a2 a3 : Nat} {st : Int32} {σ σ2 : Sg} (h9 : Lnk g q m c k s l it L T a1 a2 a3 st σ σ2) : σ2.1 680000 (g.A 17) (g.B m) = nI it := h9.2.2.2.2.2.2.2.2.2.2.2.2.2.2.2.2.2.2.2.2.2.2.2.2.2.2.2.2.2.2.2.2.2.2.2.2.2.2.2.2.2.2.1
theorem Lnk.r8 {g : Gh} {q m c : Nat} {k s l it L T a1 a2 a3 : Nat} {st : Int32} {σ σ2 : Sg} (h9 : Lnk g q m c k s l it L T a1 a2 a3 st σ σ2) : ∀ i, i < it → σ.1 310000 a1 i = σ2.1 690000 (g.A 18) (4 * g.B m + i) ∧ σ.1 320000 a2 i = σ2.1 700000 (g.A 19) (4 * g.B m + i) ∧ NR g.N (σ.2.1 330003 a3 i) (σ2.1 710000 (g.A 20) (4 * g.B m + i)) := h9.2.2.2.2.2.2.2.2.2.2.2.2.2.2.2.2.2.2.2.2.2.2.2.2.2.2.2.2.2.2.2.2.2.2.2.2.2.2.2.2.2.2.2.1
theorem Lnk.rn {g : Gh} {q m c : Nat} {k s l it L T a1 a2 a3 : Nat} {st : Int32} {σ σ2 : Sg} (h9 : Lnk g q m c k s l it L T a1 a2 a3 st σ σ2) : ∀ b, b ≠ g.B m → σ2.1 610000 (g.A 10) b = σ.1 610000 (g.A 10) b ∧ σ2.1 620000 (g.A 11) b = σ.1 620000 (g.A 11) b ∧ σ2.1 630000 (g.A 12) b = σ.1 630000 (g.A 12) b ∧ σ2.1 640000 (g.A 13) b = σ.1 640000 (g.A 13) b ∧ σ2.1 650000 (g.A 14) b = σ.1 650000 (g.A 14) b ∧ σ2.1 660000 (g.A 15) b = σ.1 660000 (g.A 15) b ∧ σ2.1 670000 (g.A 16) b = σ.1 670000 (g.A 16) b ∧ σ2.1 680000 (g.A 17) b = σ.1 680000 (g.A 17) b := h9.2.2.2.2.2.2.2.2.2.2.2.2.2.2.2.2.2.2.2.2.2.2.2.2.2.2.2.2.2.2.2.2.2.2.2.2.2.2.2.2.2.2.2.2.1
theorem Lnk.ri {g : Gh} {q m c : Nat} {k s l it L T a1 a2 a3 : Nat} {st : Int32} {σ σ2 : Sg} (h9 : Lnk g q m c k s l it L T a1 a2 a3 st σ σ2) : ∀ b i, b ≠ g.B m → i < 4 → σ2.1 690000 (g.A 18) (4 * b + i) = σ.1 690000 (g.A 18) (4 * b + i) ∧ σ2.1 700000 (g.A 19) (4 * b + i) = σ.1 700000 (g.A 19) (4 * b + i) ∧ σ2.1 710000 (g.A 20) (4 * b + i) = σ.1 710000 (g.A 20) (4 * b + i) := h9.2.2.2.2.2.2.2.2.2.2.2.2.2.2.2.2.2.2.2.2.2.2.2.2.2.2.2.2.2.2.2.2.2.2.2.2.2.2.2.2.2.2.2.2.2.1
theorem Lnk.t1 {g : Gh} {q m c : Nat} {k s l it L T a1 a2 a3 : Nat} {st : Int32} {σ σ2 : Sg} (h9 : Lnk g q m c k s l it L T a1 a2 a3 st σ σ2) : σ.1 502300 g.m 0 = nI T := h9.2.2.2.2.2.2.2.2.2.2.2.2.2.2.2.2.2.2.2.2.2.2.2.2.2.2.2.2.2.2.2.2.2.2.2.2.2.2.2.2.2.2.2.2.2.2.1
theorem Lnk.t2 {g : Gh} {q m c : Nat} {k s l it L T a1 a2 a3 : Nat} {st : Int32} {σ σ2 : Sg} (h9 : Lnk g q m c k s l it L T a1 a2 a3 st σ σ2) : σ2.1 502300 g.m 0 = nI (T + 1) := h9.2.2.2.2.2.2.2.2.2.2.2.2.2.2.2.2.2.2.2.2.2.2.2.2.2.2.2.2.2.2.2.2.2.2.2.2.2.2.2.2.2.2.2.2.2.2.2.1
theorem Lnk.u1 {g : Gh} {q m c : Nat} {k s l it L T a1 a2 a3 : Nat} {st : Int32} {σ σ2 : Sg} (h9 : Lnk g q m c k s l it L T a1 a2 a3 st σ σ2) : σ2.1 90100 (g.D q 6) 0 = σ.1 90100 (g.D q 6) 0 + nI L := h9.2.2.2.2.2.2.2.2.2.2.2.2.2.2.2.2.2.2.2.2.2.2.2.2.2.2.2.2.2.2.2.2.2.2.2.2.2.2.2.2.2.2.2.2.2.2.2.2.1
theorem Lnk.u2 {g : Gh} {q m c : Nat} {k s l it L T a1 a2 a3 : Nat} {st : Int32} {σ σ2 : Sg} (h9 : Lnk g q m c k s l it L T a1 a2 a3 st σ σ2) : σ2.1 90200 (g.D q 6) 0 = if k = 2 then σ.1 90200 (g.D q 6) 0 + nI L else σ.1 90200 (g.D q 6) 0 := h9.2.2.2.2.2.2.2.2.2.2.2.2.2.2.2.2.2.2.2.2.2.2.2.2.2.2.2.2.2.2.2.2.2.2.2.2.2.2.2.2.2.2.2.2.2.2.2.2.2.1
theorem Lnk.u3 {g : Gh} {q m c : Nat} {k s l it L T a1 a2 a3 : Nat} {st : Int32} {σ σ2 : Sg} (h9 : Lnk g q m c k s l it L T a1 a2 a3 st σ σ2) : k = 2 → ∀ u, σ.1 90200 (g.D q 6) 0 = nI u → u ≤ 32 → u + L ≤ 32 := h9.2.2.2.2.2.2.2.2.2.2.2.2.2.2.2.2.2.2.2.2.2.2.2.2.2.2.2.2.2.2.2.2.2.2.2.2.2.2.2.2.2.2.2.2.2.2.2.2.2.2
theorem Lnk.mk {g : Gh} {q m c : Nat} {k s l it L T a1 a2 a3 : Nat} {st : Int32} {σ σ2 : Sg} (m6 : σ.2.2.2 m = 6) (un : ∀ r c', r < 4 → c' < 64 → σ.2.1 150006 (g.D r 7) c' ≠ some m) (c64 : c + L ≤ 64) (L1 : 1 ≤ L) (fr : ∀ c', c ≤ c' → c' < c + L → σ.2.1 150006 (g.D q 7) c' = none) (cv : ∀ c' m' l', c' < c → σ.2.1 150006 (g.D q 7) c' = some m' → σ.1 60400 m' 0 = nI l' → l' ≤ 64 → c' + l' ≤ c) (b1 : 64 * q ≤ g.B m) (b2 : g.B m < 64 * q + 64) (b0 : σ.1 610000 (g.A 10) (g.B m) ≤ 0) (k0 : 1 ≤ k) (k3 : k ≤ 3) (f0 : σ.1 60000 m 0 = nI k) (f1 : σ.1 60100 m 0 = nI s) (s4 : s < 4) (f2 : σ.1 60200 m 0 = nI l) (ll : l ≤ g.lv s) (f3 : k = 3 ↔ σ.2.1 60303 m 0 = none) (f3a : ∀ a, σ.2.1 60303 m 0 = some a → σ.1 30200 a 0 = 0 ∧ σ.1 30000 a 0 = nI q) (f4 : σ.1 60400 m 0 = nI L) (f5 : σ.1 60500 m 0 = nI it) (i4 : it ≤ 4) (f6 : σ.2.1 60631 m 0 = some a1) (f7 : σ.2.1 60732 m 0 = some a2) (f8 : σ.2.1 60833 m 0 = some a3) (f6l : σ.1 319900 a1 0 = nI it) (f7l : σ.1 329900 a2 0 = nI it) (f8l : σ.1 339900 a3 0 = nI it) (f9 : σ.1 60900 m 0 = nI c) (f10 : σ.1 61000 m 0 = 0) (F : Fr (fun c => KLk.contains c) (fun _ => false) σ σ2) (FP : ∀ r, r ≠ q → FrP g r (fun c => KLp.contains c) (fun _ => false) σ σ2) (wf : WF σ2) (e1 : σ2.2.1 150006 (g.D q 7) c = some m) (e2 : ∀ c', c' ≠ c → σ2.2.1 150006 (g.D q 7) c' = σ.2.1 150006 (g.D q 7) c') (st12 : st = 1 ∨ st = 2) (r0 : σ2.1 610000 (g.A 10) (g.B m) = st) (r1 : σ2.1 620000 (g.A 11) (g.B m) = nI c) (r2 : σ2.1 630000 (g.A 12) (g.B m) = nI L) (r3 : σ2.1 640000 (g.A 13) (g.B m) = if k = 2 then 1 else 0) (r4 : NR g.N (σ.2.1 60303 m 0) (σ2.1 650000 (g.A 14) (g.B m))) (r5 : σ2.1 660000 (g.A 15) (g.B m) = nI s) (r6 : σ2.1 670000 (g.A 16) (g.B m) = nI T) (r7 : σ2.1 680000 (g.A 17) (g.B m) = nI it) (r8 : ∀ i, i < it → σ.1 310000 a1 i = σ2.1 690000 (g.A 18) (4 * g.B m + i) ∧ σ.1 320000 a2 i = σ2.1 700000 (g.A 19) (4 * g.B m + i) ∧ NR g.N (σ.2.1 330003 a3 i) (σ2.1 710000 (g.A 20) (4 * g.B m + i))) (rn : ∀ b, b ≠ g.B m → σ2.1 610000 (g.A 10) b = σ.1 610000 (g.A 10) b ∧ σ2.1 620000 (g.A 11) b = σ.1 620000 (g.A 11) b ∧ σ2.1 630000 (g.A 12) b = σ.1 630000 (g.A 12) b ∧ σ2.1 640000 (g.A 13) b = σ.1 640000 (g.A 13) b ∧ σ2.1 650000 (g.A 14) b = σ.1 650000 (g.A 14) b ∧ σ2.1 660000 (g.A 15) b = σ.1 660000 (g.A 15) b ∧ σ2.1 670000 (g.A 16) b = σ.1 670000 (g.A 16) b ∧ σ2.1 680000 (g.A 17) b = σ.1 680000 (g.A 17) b) (ri : ∀ b i, b ≠ g.B m → i < 4 → σ2.1 690000 (g.A 18) (4 * b + i) = σ.1 690000 (g.A 18) (4 * b + i) ∧ σ2.1 700000 (g.A 19) (4 * b + i) = σ.1 700000 (g.A 19) (4 * b + i) ∧ σ2.1 710000 (g.A 20) (4 * b + i) = σ.1 710000 (g.A 20) (4 * b + i)) (t1 : σ.1 502300 g.m 0 = nI T) (t2 : σ2.1 502300 g.m 0 = nI (T + 1)) (u1 : σ2.1 90100 (g.D q 6) 0 = σ.1 90100 (g.D q 6) 0 + nI L) (u2 : σ2.1 90200 (g.D q 6) 0 = if k = 2 then σ.1 90200 (g.D q 6) 0 + nI L else σ.1 90200 (g.D q 6) 0) (u3 : k = 2 → ∀ u, σ.1 90200 (g.D q 6) 0 = nI u → u ≤ 32 → u + L ≤ 32) : Lnk g q m c k s l it L T a1 a2 a3 st σ σ2 := ⟨m6, un, c64, L1, fr, cv, b1, b2, b0, k0, k3, f0, f1, s4, f2, ll, f3, f3a, f4, f5, i4, f6, f7, f8, f6l, f7l, f8l, f9, f10, F, FP, wf, e1, e2, st12, r0, r1, r2, r3, r4, r5, r6, r7, r8, rn, ri, t1, t2, u1, u2, u3⟩
section LK
variable {q m c k s l it L T a1 a2 a3 : Nat} {st : Int32}
theorem Lnk.ne (A : Lnk g q m c k s l it L T a1 a2 a3 st σ σ2) (R : RR E g n σ) (hq : q < 4) (ha : al g σ q) {r c' m' : Nat} (hr : r < 4) (hc' : c' < 64) (hm' : σ.2.1 150006 (g.D r 7) c' = some m') : g.B m' ≠ g.B m := by
  intro e
  have hb := RBn.of R.a r c' m' hr hc' hm'
  have := A.b1; have := A.b2
  have hrq : r = q := by omega
  subst hrq
  exact (((R.a r hr).1 ha).1.1 c' m' hc' hm').2.2.1 (by rw [e]; exact A.b0)
/-- an old message, moved -/
theorem Lnk.ms (A : Lnk g q m c k s l it L T a1 a2 a3 st σ σ2) (R : RR E g n σ) (hq : q < 4) (ha : al g σ q) (hT : T ≤ n) (hn : n ≤ 600) {r c' m' : Nat} (hr : r < 4) (hc' : c' < 64) (hm' : σ.2.1 150006 (g.D r 7) c' = some m') (h : MsR g r c' m' σ) : MsR g r c' m' σ2 := by
  have hne := A.ne R hq ha hr hc' hm'
  obtain ⟨n1, n2, n3, n4, n5, n6, n7, n8⟩ := A.rn _ hne
  obtain ⟨k', s', l', it', t', T', a1', a2', a3', x1, x2, x3, x4, x5, x6, x7, x8, x9, x10, x11, x12, x13, x14, x15, x16, x17, x18, x19, x20, x21, x22, x23, x24, x25, x26, x27, x28⟩ := h
  have k6 : σ.2.2.2 m' = 6 := R.s.wf _ _ _ _ hm' (by decide)
  have f1 : ∀ {c i}, c < 500000 → KLk.contains c = false → σ2.1 c m' i = σ.1 c m' i := fun hc hk => ((A.F.at g r).o R.s k6 (by decide) hc hk).1
  have f2 : ∀ {c i}, c < 500000 → KLk.contains c = false → σ2.2.1 c m' i = σ.2.1 c m' i := fun hc hk => ((A.F.at g r).o R.s k6 (by decide) hc hk).2
  have y1 := R.s.wf _ _ _ _ x17 (by decide)
  have y2 := R.s.wf _ _ _ _ x18 (by decide)
  have y3 := R.s.wf _ _ _ _ x19 (by decide)
  have hTT : T' = T := by
    exact (nI_eq (by omega) (by omega)).mp (x27.symm.trans A.t1)
  refine ⟨k', s', l', it', t', T + 1, a1', a2', a3', by rw [f1 (by decide) (by decide)]; exact x1, x2, x3, by rw [f1 (by decide) (by decide)]; exact x4, x5, by rw [f1 (by decide) (by decide)]; exact x6, x7, by rw [n6]; exact x8, by rw [f1 (by decide) (by decide)]; exact x9, by rw [f1 (by decide) (by decide)]; exact x10, x11, by rw [n8]; exact x12, by rw [n4]; exact x13, by rw [f2 (by decide) (by decide), n5]; exact x14, by rw [f2 (by decide) (by decide)]; exact x15, fun a ha => ?_, by rw [f2 (by decide) (by decide)]; exact x17, by rw [f2 (by decide) (by decide)]; exact x18, by rw [f2 (by decide) (by decide)]; exact x19, by rw [((A.F.at g r).o R.s y1 (by decide) (by decide) (by decide)).1]; exact x20, by rw [((A.F.at g r).o R.s y2 (by decide) (by decide) (by decide)).1]; exact x21, by rw [((A.F.at g r).o R.s y3 (by decide) (by decide) (by decide)).1]; exact x22, fun i hi => ?_, by rw [n1]; exact x24, by rw [f1 (by decide) (by decide), n1]; exact x25, by rw [n7]; exact x26, A.t2, by omega⟩
  · rw [f2 (by decide) (by decide)] at ha
    have na := R.s.wf _ _ _ _ ha (by decide)
    rw [((A.F.at g r).o R.s na (by decide) (by decide) (by decide)).1, ((A.F.at g r).o R.s na (by decide) (by decide) (by decide)).1]
    exact x16 a ha
  · obtain ⟨i1, i2, i3⟩ := A.ri _ i hne (by omega)
    rw [((A.F.at g r).o R.s y1 (by decide) (by decide) (by decide)).1, ((A.F.at g r).o R.s y2 (by decide) (by decide) (by decide)).1, ((A.F.at g r).o R.s y3 (by decide) (by decide) (by decide)).2, i1, i2, i3]
    exact x23 i hi
set_option maxHeartbeats 1000000 in
/-- .. and all says the same, if the queues do -/
theorem RR.link (R : RR E g n σ) (hn : n ≤ 600) (hq : q < 4) (ha : al g σ q) (A : Lnk g q m c k s l it L T a1 a2 a3 st σ σ2) (hT : T + 1 ≤ n) (Q : Nat → List Nat) (hQ : RQ (gq g Q) σ2) : RR E (gq g Q) n σ2 := by
  have F := A.F
  have hw' := A.wf
  have hfe' := F.f0 (fun _ => rfl) R.s.f0
  have hc : c < 64 := by have := A.c64; have := A.L1; omega
  have al' : ∀ r, al g σ2 r ↔ al g σ r := al.fr R.s F (by decide)
  have k6 : ∀ {r c' m'}, σ.2.1 150006 (g.D r 7) c' = some m' → σ.2.2.2 m' = 6 := fun h => R.s.wf _ _ _ _ h (by decide)
  obtain ⟨A0, AM, AU, u, hu, AU1, AU2⟩ := (R.a q hq).1 ha
  have c0 := A.fr c (Nat.le_refl _) (by have := A.L1; omega)
  have lens : ∀ b, 64 * q ≤ b → b < 64 * q + 64 → ¬ σ.1 610000 (g.A 10) b ≤ 0 → ∃ L, L ≤ 64 ∧ σ.1 630000 (g.A 12) b = nI L := by
    intro b h1 h2 h3
    obtain ⟨c', m', hc', hm', rfl⟩ := A0.2 b h1 h2 h3
    obtain ⟨-, -, -, -, y5, L', y6, -, y8, -⟩ := A0.1 c' m' hc' hm'
    exact ⟨L', by omega, by rw [y5, y6]⟩
  have lens2 : ∀ b, 64 * q ≤ b → b < 64 * q + 64 → ¬ σ2.1 610000 (g.A 10) b ≤ 0 → ∃ L, L ≤ 64 ∧ σ2.1 630000 (g.A 12) b = nI L := by
    intro b h1 h2 h3
    by_cases z : b = g.B m
    · subst z; exact ⟨L, by have := A.c64; omega, A.r2⟩
    · obtain ⟨n1, n2, n3, -⟩ := A.rn b z
      rw [n1] at h3
      rw [n3]; exact lens b h1 h2 h3
  have sp : ¬ st ≤ 0 := by rcases A.st12 with e | e <;> rw [e] <;> decide
  have sums : ∀ w : Int32, sumR (celN (σ2.1 610000 (g.A 10)) (σ2.1 630000 (g.A 12)) (σ2.1 640000 (g.A 13)) w) 64 (64 * q) = sumR (celN (σ.1 610000 (g.A 10)) (σ.1 630000 (g.A 12)) (σ.1 640000 (g.A 13)) w) 64 (64 * q) + (if (if k = 2 then (1 : Int32) else 0) = 0 ∧ ¬ w = 0 then 0 else L) := by
    intro w
    have h9 := sumR_upd (f := celN (σ.1 610000 (g.A 10)) (σ.1 630000 (g.A 12)) (σ.1 640000 (g.A 13)) w) (g := celN (σ2.1 610000 (g.A 10)) (σ2.1 630000 (g.A 12)) (σ2.1 640000 (g.A 13)) w) (j0 := g.B m) 64 (64 * q) A.b1 A.b2 (fun j _ _ hj => by
      unfold celN
      obtain ⟨n1, n2, n3, n4, -⟩ := A.rn j hj
      rw [n1, n3, n4])
    have z1 : celN (σ.1 610000 (g.A 10)) (σ.1 630000 (g.A 12)) (σ.1 640000 (g.A 13)) w (g.B m) = 0 := by
      unfold celN; rw [if_pos A.b0]
    have z2 : celN (σ2.1 610000 (g.A 10)) (σ2.1 630000 (g.A 12)) (σ2.1 640000 (g.A 13)) w (g.B m) = if (if k = 2 then (1 : Int32) else 0) = 0 ∧ ¬ w = 0 then 0 else L := by
      unfold celN; rw [A.r0, if_neg sp, A.r2, A.r3, nI_clamp (by have := A.c64; omega)]
    rw [z1, z2] at h9
    omega
  have a' : ∀ r, r < 4 → RA g r σ2 := by
    intro r hr
    by_cases e : r = q
    · subst e
      refine ⟨fun _ => ⟨⟨fun c' m' hc' hm' => ?_, fun b h1 h2 h3 => ?_⟩, fun c' m' hc' hm' => ?_, ?_, ?_⟩, fun z => absurd ((al' r).mpr ha) z⟩
      · show 64 * r ≤ g.B m' ∧ g.B m' < 64 * r + 64 ∧ ¬ σ2.1 610000 (g.A 10) (g.B m') ≤ 0 ∧ σ2.1 620000 (g.A 11) (g.B m') = nI c' ∧ σ2.1 630000 (g.A 12) (g.B m') = σ2.1 60400 m' 0 ∧ ∃ L, σ2.1 60400 m' 0 = nI L ∧ 1 ≤ L ∧ c' + L ≤ 64 ∧ ∀ c2, c' < c2 → c2 < c' + L → σ2.2.1 150006 (g.D r 7) c2 = none
        by_cases hcc : c' = c
        · subst hcc
          have : m' = m := Option.some.inj (hm'.symm.trans A.e1)
          subst this
          have hcl : σ2.1 60400 m' 0 = nI L := by rw [((F.at g r).o R.s A.m6 (by decide) (by decide) (by decide)).1]; exact A.f4
          refine ⟨A.b1, A.b2, by rw [A.r0]; exact sp, A.r1, by rw [A.r2, hcl], L, hcl, A.L1, A.c64, fun c2 h1 h2 => ?_⟩
          rw [A.e2 c2 (by omega)]; exact A.fr c2 (by omega) h2
        · rw [A.e2 c' hcc] at hm'
          obtain ⟨y1, y2, y3, y4, y5, L', y6, y7, y8, y9⟩ := A0.1 c' m' hc' hm'
          obtain ⟨n1, n2, n3, -⟩ := A.rn _ (A.ne R hq ha hr hc' hm')
          have hcl : σ2.1 60400 m' 0 = σ.1 60400 m' 0 := ((F.at g r).o R.s (k6 hm') (by decide) (by decide) (by decide)).1
          rw [n1, n2, n3, hcl]
          refine ⟨y1, y2, y3, y4, y5, L', y6, y7, y8, fun c2 h1 h2 => ?_⟩
          have hc2 : c2 ≠ c := by
            rintro rfl
            have := A.cv c' m' L' h1 hm' y6 (by omega)
            omega
          rw [A.e2 c2 hc2]; exact y9 c2 h1 h2
      · by_cases z : b = g.B m
        · exact ⟨c, m, hc, A.e1, z.symm⟩
        · rw [(A.rn b z).1] at h3
          obtain ⟨c', m', hc', hm', rfl⟩ := A0.2 b h1 h2 h3
          have hcc : c' ≠ c := by rintro rfl; rw [c0] at hm'; cases hm'
          exact ⟨c', m', hc', by rw [A.e2 c' hcc]; exact hm', rfl⟩
      · by_cases hcc : c' = c
        · subst hcc
          have : m' = m := Option.some.inj (hm'.symm.trans A.e1)
          subst this
          have f1 : ∀ {c i}, c < 500000 → KLk.contains c = false → σ2.1 c m' i = σ.1 c m' i := fun hc hk => ((F.at g r).o R.s A.m6 (by decide) hc hk).1
          have f2 : ∀ {c i}, c < 500000 → KLk.contains c = false → σ2.2.1 c m' i = σ.2.1 c m' i := fun hc hk => ((F.at g r).o R.s A.m6 (by decide) hc hk).2
          have y1 := R.s.wf _ _ _ _ A.f6 (by decide)
          have y2 := R.s.wf _ _ _ _ A.f7 (by decide)
          have y3 := R.s.wf _ _ _ _ A.f8 (by decide)
          refine ⟨k, s, l, it, T, T + 1, a1, a2, a3, by rw [f1 (by decide) (by decide)]; exact A.f0, A.k0, A.k3, by rw [f1 (by decide) (by decide)]; exact A.f1, A.s4, by rw [f1 (by decide) (by decide)]; exact A.f2, A.ll, A.r5, by rw [f1 (by decide) (by decide)]; exact A.f9, by rw [f1 (by decide) (by decide)]; exact A.f5, A.i4, A.r7, A.r3, by rw [f2 (by decide) (by decide)]; exact A.r4, by rw [f2 (by decide) (by decide)]; exact A.f3, fun a ha => ?_, by rw [f2 (by decide) (by decide)]; exact A.f6, by rw [f2 (by decide) (by decide)]; exact A.f7, by rw [f2 (by decide) (by decide)]; exact A.f8, by rw [((F.at g r).o R.s y1 (by decide) (by decide) (by decide)).1]; exact A.f6l, by rw [((F.at g r).o R.s y2 (by decide) (by decide) (by decide)).1]; exact A.f7l, by rw [((F.at g r).o R.s y3 (by decide) (by decide) (by decide)).1]; exact A.f8l, fun i hi => ?_, ?_, ?_, A.r6, A.t2, by omega, by omega⟩
          · rw [f2 (by decide) (by decide)] at ha
            have na := R.s.wf _ _ _ _ ha (by decide)
            rw [((F.at g r).o R.s na (by decide) (by decide) (by decide)).1, ((F.at g r).o R.s na (by decide) (by decide) (by decide)).1]
            exact A.f3a a ha
          · rw [((F.at g r).o R.s y1 (by decide) (by decide) (by decide)).1, ((F.at g r).o R.s y2 (by decide) (by decide) (by decide)).1, ((F.at g r).o R.s y3 (by decide) (by decide) (by decide)).2]
            exact A.r8 i hi
          · rw [A.r0]; exact A.st12.imp id Or.inl
          · rw [f1 (by decide) (by decide), A.f10, A.r0]
            rcases A.st12 with e | e <;> rw [e] <;> decide
        · rw [A.e2 c' hcc] at hm'
          exact A.ms R hq ha (by omega) hn hr hc' hm' (AM c' m' hc' hm')
      · rw [A.u1, AU, cels_n lens, cels_n lens2, sums 0, if_neg (fun q => q.2 rfl), nI_add]
      · have hs1 := sums 1
        rw [cels_n lens] at AU2
        have hu' : sumR (celN (σ.1 610000 (g.A 10)) (σ.1 630000 (g.A 12)) (σ.1 640000 (g.A 13)) 1) 64 (64 * r) = u := by
          have hle := sumR_le (f := celN (σ.1 610000 (g.A 10)) (σ.1 630000 (g.A 12)) (σ.1 640000 (g.A 13)) 1) (M := 64) 64 (64 * r) (fun j h1 h2 => by
            unfold celN
            split
            · omega
            · split
              · omega
              · rename_i z _
                obtain ⟨L', hL', eL⟩ := lens j h1 h2 z
                rw [eL, nI_clamp (by omega)]; exact hL')
          exact (nI_eq (by omega) (by omega)).mp AU2
        rw [hu'] at hs1
        rw [cels_n lens2, hs1, A.u2]
        by_cases k2 : k = 2
        · simp only [if_pos k2]
          refine ⟨u + L, A.u3 k2 u AU1 hu, by rw [AU1, nI_add], ?_⟩
          rw [if_neg (fun q => absurd q.1 (by decide))]
        · simp only [if_neg k2]
          refine ⟨u, hu, AU1, ?_⟩
          rw [if_pos ⟨trivial, by decide⟩]; rfl
    · have FPr := A.FP r e
      have ea : al g σ2 r ↔ al g σ r := al' r
      refine ⟨fun har => ?_, fun har => ?_⟩
      · obtain ⟨B1, B2, B3, u', B4, B5, B6⟩ := (R.a r hr).1 (ea.mp har)
        have eb : ∀ c, σ2.2.1 150006 (g.D r 7) c = σ.2.1 150006 (g.D r 7) c := fun c => (FPr.d R.s hr (by decide) (by decide) (by decide)).2
        have er : ∀ b, 64 * r ≤ b → b < 64 * r + 64 → b ≠ g.B m := fun b h1 h2 => by have := A.b1; have := A.b2; omega
        have ec := fun w : Int32 => cels_cong (w := w) (p := r) (sta := σ.1 610000 (g.A 10)) (len := σ.1 630000 (g.A 12)) (ow := σ.1 640000 (g.A 13)) (sta' := σ2.1 610000 (g.A 10)) (len' := σ2.1 630000 (g.A 12)) (ow' := σ2.1 640000 (g.A 13)) (fun b h1 h2 => ⟨(A.rn b (er b h1 h2)).1, (A.rn b (er b h1 h2)).2.2.1, (A.rn b (er b h1 h2)).2.2.2.1⟩)
        refine ⟨B1.cong (fun c _ => eb c) (fun c m hc hm => ((F.at g r).o R.s (k6 hm) (by decide) (by decide) (by decide)).1) (fun b h1 h2 => ⟨(A.rn b (er b h1 h2)).1, (A.rn b (er b h1 h2)).2.1, (A.rn b (er b h1 h2)).2.2.1⟩), fun c' m' hc' hm' => ?_, ?_, u', B4, ?_, ?_⟩
        · rw [eb c'] at hm'
          exact A.ms R hq ha (by omega) hn hr hc' hm' (B2 c' m' hc' hm')
        · rw [(FPr.d R.s hr (by decide) (by decide) (by decide)).1, ec 0]; exact B3
        · rw [(FPr.d R.s hr (by decide) (by decide) (by decide)).1]; exact B5
        · rw [ec 1]; exact B6
      · obtain ⟨B1, B2, B3⟩ := (R.a r hr).2 (fun z => har (ea.mpr z))
        refine ⟨fun c hc => ?_, ?_, ?_⟩
        · rw [(FPr.d R.s hr (by decide) (by decide) (by decide)).2]; exact B1 c hc
        · rw [(FPr.d R.s hr (by decide) (by decide) (by decide)).1]; exact B2
        · rw [(FPr.d R.s hr (by decide) (by decide) (by decide)).1]; exact B3
  have i' : ∀ r, r < 4 → RI g r σ2 := by
    intro r hr
    obtain ⟨q1, q2, q3, q4, q5⟩ := R.i r hr
    have em : ∀ i w, (g.L1 r)[i]? = some w → σ2.2.1 50106 w 0 = σ.2.1 50106 w 0 := fun i w hi => ((F.at g r).o R.s (R.s.k1 hr hi) (by decide) (by decide) (by decide)).2
    refine ⟨fun i w hi => ?_, fun i i' w w' m hi hi' hm hm' => ?_, by rw [(F.2.2 _ _ _ (R.s.kA (by decide)) (by decide)).1]; exact q3, fun z => q4 (fun y => z ((al' r).mpr y)), q5⟩
    · refine (q1 i w hi).mv (R.s.k1 hr hi) R.s (F.at g r) (fun j _ => (F.2.2 _ _ _ (R.s.kA (by decide)) (by decide)).1) (by decide) (fun c' m' hc' hm' hmw => ⟨?_, (A.rn _ (A.ne R hq ha hr hc' hm')).1⟩)
      by_cases e : r = q
      · subst e
        have hcc : c' ≠ c := by rintro rfl; rw [c0] at hm'; cases hm'
        rw [A.e2 c' hcc]; exact hm'
      · rw [((A.FP r e).d R.s hr (by decide) (by decide) (by decide)).2]; exact hm'
    · rw [em i w hi] at hm
      rw [em i' w' hi'] at hm'
      exact q2 i i' w w' m hi hi' hm hm'
  have s0 : RS E g σ2 := R.s.fr0 F hw' hfe' (by decide) (by decide) (by decide) (by decide)
  have s' : RS E (gq g Q) σ2 := RS.mk
                                  (wf := s0.wf)
                                  (mo := s0.mo)
                                  (sh := s0.sh)
                                  (dj := s0.dj)
                                  (x1 := s0.x1)
                                  (x2 := s0.x2)
                                  (x3 := s0.x3)
                                  (nm := s0.nm)
                                  (l1 := s0.l1)
                                  (l2 := s0.l2)
                                  (l3 := s0.l3)
  exact
  RR.mk
    (s := s')
    (p := (show RP g n σ2 from R.p.fr R.s F (by decide)))
    (no := (show RNo g σ2 from R.no.fr R.s F (by decide) (by decide)))
    (mg := (show RMg g σ2 from R.mg.fr R.s F (by decide)))
    (h := fun p hp => (show RH g n p σ2 from (R.h p hp).fr hp R.s (F.at _ p) (by decide)))
    (d := fun p hp => (show RD g p σ2 from (R.d p hp).fr hp R.s (F.at _ p) (by decide)))
    (o := fun p hp => (show RO g p σ2 from (R.o p hp).fr hp R.s (F.at _ p) (by decide)))
    (v := fun p hp => (show RV g p σ2 from (R.v p hp).fr hp R.s (F.at _ p) (by decide)))
    (a := a')
    (l := fun p hp => (show RL g p σ2 from (R.l p hp).fr hp R.s (F.at _ p) (by decide) (by decide)))
    (i := i')
    (q := hQ)
    (c := (show RC g σ2 from R.c.fr R.s F (by decide) (by decide)))
    (b := (show RB g σ2 from R.b.fr R.s F (by decide) (by decide)))
    (t := ⟨T + 1, A.t2, by omega⟩)
/-- which one-way messages lie there then -/
theorem Lnk.wo (A : Lnk g q m c k s l it L T a1 a2 a3 st σ σ2) (R : RR E g n σ) (hq : q < 4) {o x c' m' : Nat} (ho : o < 4) : ow g σ2 o x c' m' ↔ (ow g σ o x c' m' ∨ (o = q ∧ c' = c ∧ m' = m ∧ k = 2 ∧ σ.2.1 60303 m 0 = some x)) := by
  have F := A.F
  have k6 : ∀ {r c' m'}, σ.2.1 150006 (g.D r 7) c' = some m' → σ.2.2.2 m' = 6 := fun h => R.s.wf _ _ _ _ h (by decide)
  have hc : c < 64 := by have := A.c64; have := A.L1; omega
  have c0 := A.fr c (Nat.le_refl _) (by have := A.L1; omega)
  have f6 : ∀ {m'}, σ.2.2.2 m' = 6 → σ2.1 60000 m' 0 = σ.1 60000 m' 0 ∧ σ2.2.1 60303 m' 0 = σ.2.1 60303 m' 0 := fun h => ⟨((F.at g o).o R.s h (by decide) (by decide) (by decide)).1, ((F.at g o).o R.s h (by decide) (by decide) (by decide)).2⟩
  unfold ow
  by_cases e : o = q
  · subst e
    by_cases ec : c' = c
    · subst ec
      rw [A.e1, c0]
      constructor
      · rintro ⟨y1, y2, y3, y4⟩
        cases y2
        rw [(f6 A.m6).1, A.f0] at y3
        rw [(f6 A.m6).2] at y4
        have := A.k3
        exact Or.inr ⟨rfl, rfl, rfl, (nI_eq (b := 2) (by omega) (by omega)).mp y3, y4⟩
      · rintro (⟨-, y2, -⟩ | ⟨-, -, rfl, y1, y2⟩)
        · cases y2
        · refine ⟨hc, rfl, ?_, ?_⟩
          · rw [(f6 A.m6).1, A.f0, y1]; rfl
          · rw [(f6 A.m6).2]; exact y2
    · rw [A.e2 c' ec]
      constructor
      · rintro ⟨y1, y2, y3, y4⟩
        rw [(f6 (k6 y2)).1] at y3
        rw [(f6 (k6 y2)).2] at y4
        exact Or.inl ⟨y1, y2, y3, y4⟩
      · rintro (⟨y1, y2, y3, y4⟩ | ⟨-, y, -⟩)
        · rw [(f6 (k6 y2)).1, (f6 (k6 y2)).2]
          exact ⟨y1, y2, y3, y4⟩
        · exact absurd y ec
  · have := ow.fr (a := x) (c := c') (m := m') ho R.s (A.FP o e) (by decide) (by decide) (by decide)
    exact this.trans ⟨fun y => Or.inl y, fun y => y.elim id (fun z => absurd z.1 e)⟩
theorem Lnk.F3 (A : Lnk g q m c k s l it L T a1 a2 a3 st σ σ2) {x : Nat} (h : σ2.2.2.2 x = 3) : σ.2.2.2 x = 3 := by
  by_cases z : σ.2.2.2 x = 0
  · have := A.F.2.1 x z (by rw [h]; decide)
    cases this
  · rw [← A.F.1 x z]; exact h
/-- the queue of a node that the message is not for -/
theorem Lnk.q0 (A : Lnk g q m c k s l it L T a1 a2 a3 st σ σ2) (R : RR E g n σ) (hq : q < 4) (ha : al g σ q) {o x : Nat} (ho : o < 4) (h3 : σ.2.2.2 x = 3) (hx : ¬ (k = 2 ∧ σ.2.1 60303 m 0 = some x)) (h : RQa g o x σ) (Q : Nat → List Nat) (hQ : Q x = g.Q x)
    (e1 : σ2.2.1 30406 x 0 = σ.2.1 30406 x 0) (e2 : σ2.2.1 30506 x 0 = σ.2.1 30506 x 0) (e3 : σ2.1 30300 x 0 = σ.1 30300 x 0) (e4 : ∀ m', m' ∈ g.Q x → σ2.2.1 61106 m' 0 = σ.2.1 61106 m' 0) : RQa (gq g Q) o x σ2 := by
  have w : ∀ {c' m'}, ow g σ2 o x c' m' ↔ ow g σ o x c' m' := by
    intro c' m'
    rw [A.wo R hq ho]
    exact ⟨fun y => y.elim id (fun z => absurd ⟨z.2.2.2.1, z.2.2.2.2⟩ hx), Or.inl⟩
  have st : ∀ {c' m'}, ow g σ o x c' m' → σ2.1 610000 (g.A 10) (g.B m') = σ.1 610000 (g.A 10) (g.B m') ∧ σ2.1 670000 (g.A 16) (g.B m') = σ.1 670000 (g.A 16) (g.B m') := fun hm => by
    obtain ⟨n1, n2, n3, n4, n5, n6, n7, -⟩ := A.rn _ (A.ne R hq ha ho hm.1 hm.2.1)
    exact ⟨n1, n7⟩
  obtain ⟨g1, g2, g3, g4, g5, g6, g7⟩ := h
  unfold RQa
  show chn (fun m => σ2.2.1 61106 m 0) (σ2.2.1 30406 x 0) (Q x) ∧ σ2.2.1 30506 x 0 = (Q x).getLast? ∧ (∀ m, m ∈ Q x → ∃ c, ow g σ2 o x c m ∧ σ2.1 610000 (g.A 10) (g.B m) = 1) ∧ (Q x).Pairwise (fun m m' => σ2.1 670000 (g.A 16) (g.B m) < σ2.1 670000 (g.A 16) (g.B m')) ∧ (∀ c m, ow g σ2 o x c m → σ2.1 610000 (g.A 10) (g.B m) = 1 → m ∈ Q x) ∧ ((σ2.1 30300 x 0 = 0 ∧ ∀ c m, ¬ ow g σ2 o x c m) ∨ (σ2.1 30300 x 0 = 1 ∧ ∃ c m, ow g σ2 o x c m)) ∧ (∀ c c' m m', ow g σ2 o x c m → ow g σ2 o x c' m' → ¬ σ2.1 610000 (g.A 10) (g.B m) = 1 → ¬ σ2.1 610000 (g.A 10) (g.B m') = 1 → m = m')
  simp only [w]
  rw [hQ, e1, e2, e3]
  refine ⟨g1.cong e4, g2, fun m hm => ?_, List.Pairwise.imp_of_mem (fun {x y} hx hy hxy => ?_) g4, fun c m hm hs => g5 c m hm (by rw [← (st hm).1]; exact hs), g6, fun c c' m m' hm hm' hs hs' => g7 c c' m m' hm hm' (by rw [← (st hm).1]; exact hs) (by rw [← (st hm').1]; exact hs')⟩
  · obtain ⟨c, hc, hs⟩ := g3 m hm
    exact ⟨c, hc, by rw [(st hc).1]; exact hs⟩
  · obtain ⟨c1, h1, -⟩ := g3 x hx
    obtain ⟨c2, h2, -⟩ := g3 y hy
    rw [(st h1).2, (st h2).2]; exact hxy
/-- .. of all, if that of the message's own node is right -/
theorem Lnk.rq (A : Lnk g q m c k s l it L T a1 a2 a3 st σ σ2) (R : RR E g n σ) (hq : q < 4) (ha : al g σ q) (Q : Nat → List Nat) (hs : st = 1 → k = 2) (hQ : ∀ x, ¬ (k = 2 ∧ σ.2.1 60303 m 0 = some x) → Q x = g.Q x)
    (h1 : ∀ x, σ.2.2.2 x = 3 → ¬ (k = 2 ∧ σ.2.1 60303 m 0 = some x) → σ2.2.1 30406 x 0 = σ.2.1 30406 x 0 ∧ σ2.2.1 30506 x 0 = σ.2.1 30506 x 0 ∧ σ2.1 30300 x 0 = σ.1 30300 x 0 ∧ ∀ m', m' ∈ g.Q x → (∃ o c', o < 4 ∧ ow g σ o x c' m') → σ2.2.1 61106 m' 0 = σ.2.1 61106 m' 0)
    (h2 : ∀ x, k = 2 → σ.2.1 60303 m 0 = some x → RQa g q x σ → RQa (gq g Q) q x σ2) : RQ (gq g Q) σ2 := by
  have F := A.F
  refine ⟨fun x o hx hd ho hw => ?_, fun r c' m' hr har hc' hm' hs1 => ?_⟩
  · have x3 := A.F3 hx
    rw [((F.at g o).o R.s x3 (by decide) (by decide) (by decide)).1] at hd hw
    have h := R.q.1 x o x3 hd ho hw
    by_cases z : k = 2 ∧ σ.2.1 60303 m 0 = some x
    · have : o = q := (nI_eq (by omega) (by omega)).mp (hw.symm.trans (A.f3a x z.2).2)
      subst this
      exact h2 x z.1 z.2 h
    · obtain ⟨p1, p2, p3, p4⟩ := h1 x x3 z
      exact A.q0 R hq ha ho x3 z h Q (hQ x z) p1 p2 p3 (fun m' hm' => p4 m' hm' (by obtain ⟨c', hc', -⟩ := h.2.2.1 m' hm'; exact ⟨o, c', ho, hc'⟩))
  · have hm1 : σ2.2.1 150006 (g.D r 7) c' = some m' := hm'
    have hs2 : σ2.1 610000 (g.A 10) (g.B m') = 1 := hs1
    by_cases z : r = q ∧ c' = c
    · obtain ⟨rfl, rfl⟩ := z
      have : m' = m := Option.some.inj (hm1.symm.trans A.e1)
      subst this
      rw [A.r0] at hs2
      rw [((F.at g r).o R.s A.m6 (by decide) (by decide) (by decide)).1, A.f0, hs hs2]; rfl
    · have hm0 : σ.2.1 150006 (g.D r 7) c' = some m' := by
        by_cases e : r = q
        · subst e
          rw [A.e2 c' (fun y => z ⟨rfl, y⟩)] at hm1; exact hm1
        · rw [((A.FP r e).d R.s hr (by decide) (by decide) (by decide)).2] at hm1; exact hm1
      rw [(A.rn _ (A.ne R hq ha hr hc' hm0)).1] at hs2
      rw [((F.at g r).o R.s (R.s.wf _ _ _ _ hm0 (by decide)) (by decide) (by decide) (by decide)).1]
      exact R.q.2 r c' m' hr ((al.fr R.s F (by decide) r).mp har) hc' hm0 hs2
/-- a call, a reply, or a one-way message whose node is free -/
theorem RR.linkN (R : RR E g n σ) (hn : n ≤ 600) (hq : q < 4) (ha : al g σ q) (A : Lnk g q m c k s l it L T a1 a2 a3 2 σ σ2) (hT : T + 1 ≤ n) (hz : ∀ a, k = 2 → σ.2.1 60303 m 0 = some a → σ.1 30300 a 0 = 0)
    (e1 : ∀ x, σ.2.2.2 x = 3 → σ2.2.1 30406 x 0 = σ.2.1 30406 x 0 ∧ σ2.2.1 30506 x 0 = σ.2.1 30506 x 0 ∧ σ2.1 30300 x 0 = if k = 2 ∧ σ.2.1 60303 m 0 = some x then 1 else σ.1 30300 x 0) (e2 : ∀ m', σ.2.2.2 m' = 6 → σ2.2.1 61106 m' 0 = σ.2.1 61106 m' 0) : RR E g n σ2 := by
  refine R.link hn hq ha A hT g.Q (A.rq R hq ha g.Q (fun h => absurd h (by decide)) (fun _ _ => rfl) (fun x x3 z => ?_) (fun x k2 hx h => ?_))
  · obtain ⟨p1, p2, p3⟩ := e1 x x3
    refine ⟨p1, p2, by rw [p3, if_neg z], fun m' _ ho => ?_⟩
    obtain ⟨o, c', ho, hc'⟩ := ho
    exact e2 m' (R.s.wf _ _ _ _ hc'.2.1 (by decide))
  · have x3 : σ.2.2.2 x = 3 := R.s.wf _ _ _ _ hx (by decide)
    obtain ⟨p1, p2, p3⟩ := e1 x x3
    obtain ⟨g1, g2, g3, g4, g5, g6, g7⟩ := h
    have h0 := hz x k2 hx
    rcases g6 with ⟨-, g6⟩ | ⟨g6, -⟩
    · have Q0 : g.Q x = [] := by
        cases e : g.Q x with
        | nil => rfl
        | cons y t =>
          obtain ⟨c', hc', -⟩ := g3 y (by rw [e]; exact List.mem_cons_self)
          exact absurd hc' (g6 c' y)
      have w : ∀ {c' m'}, ow g σ2 q x c' m' ↔ (c' = c ∧ m' = m) := by
        intro c' m'
        rw [A.wo R hq hq]
        exact ⟨fun y => y.elim (fun z => absurd z (g6 c' m')) (fun z => ⟨z.2.1, z.2.2.1⟩), fun z => Or.inr ⟨rfl, z.1, z.2, k2, hx⟩⟩
      unfold RQa
      show chn (fun m => σ2.2.1 61106 m 0) (σ2.2.1 30406 x 0) (g.Q x) ∧ σ2.2.1 30506 x 0 = (g.Q x).getLast? ∧ (∀ m, m ∈ g.Q x → ∃ c, ow g σ2 q x c m ∧ σ2.1 610000 (g.A 10) (g.B m) = 1) ∧ (g.Q x).Pairwise (fun m m' => σ2.1 670000 (g.A 16) (g.B m) < σ2.1 670000 (g.A 16) (g.B m')) ∧ (∀ c m, ow g σ2 q x c m → σ2.1 610000 (g.A 10) (g.B m) = 1 → m ∈ g.Q x) ∧ ((σ2.1 30300 x 0 = 0 ∧ ∀ c m, ¬ ow g σ2 q x c m) ∨ (σ2.1 30300 x 0 = 1 ∧ ∃ c m, ow g σ2 q x c m)) ∧ (∀ c c' m m', ow g σ2 q x c m → ow g σ2 q x c' m' → ¬ σ2.1 610000 (g.A 10) (g.B m) = 1 → ¬ σ2.1 610000 (g.A 10) (g.B m') = 1 → m = m')
      simp only [w]
      rw [Q0] at g1 g2 ⊢
      rw [p1, p2, p3, if_pos ⟨k2, hx⟩]
      refine ⟨g1, g2, fun m hm => (by cases hm), List.Pairwise.nil, fun c' m' hm hs => ?_, Or.inr ⟨rfl, c, m, rfl, rfl⟩, fun c1 c2 m1 m2 h1 h2 _ _ => h1.2.trans h2.2.symm⟩
      rw [hm.2, A.r0] at hs; exact absurd hs (by decide)
    · rw [h0] at g6; exact absurd g6 (by decide)
theorem chn_app {nx nx' : Nat → Option Nat} {m : Nat} (hm : nx' m = none) : ∀ {l : List Nat} {f : Option Nat}, chn nx f l → l.Nodup → (∀ x, x ∈ l → some x ≠ l.getLast? → nx' x = nx x) → (∀ x, l.getLast? = some x → nx' x = some m) → chn nx' (if l = [] then some m else f) (l ++ [m])
  | [], f, h, _, _, _ => by rw [if_pos rfl]; exact ⟨rfl, hm⟩
  | [a], f, h, _, _, h2 => by
    rw [if_neg (by simp)]
    exact ⟨h.1, by rw [h2 a rfl]; exact ⟨rfl, hm⟩⟩
  | a :: b :: t, f, h, nd, h1, h2 => by
    rw [if_neg (by simp)]
    refine ⟨h.1, ?_⟩
    have nd2 := List.nodup_cons.mp nd
    have hl : (a :: b :: t).getLast? = (b :: t).getLast? := by simp [List.getLast?_cons_cons]
    have ea : nx' a = nx a := h1 a List.mem_cons_self (by
      rw [hl]; intro e
      exact nd2.1 (List.mem_of_getLast? e.symm))
    have := chn_app (nx := nx) (nx' := nx') (m := m) hm (l := b :: t) (f := nx a) h.2 nd2.2 (fun x hx hne => h1 x (List.mem_cons_of_mem _ hx) (by rw [hl]; exact hne)) (fun x hx => h2 x (by rw [hl]; exact hx))
    rw [if_neg (by simp)] at this
    rw [ea]; exact this
/-- a one-way message whose node is busy: it waits -/
theorem RR.linkW {a : Nat} (R : RR E g n σ) (hn : n ≤ 600) (hq : q < 4) (ha : al g σ q) (A : Lnk g q m c 2 s l it L T a1 a2 a3 1 σ σ2) (hT : T + 1 ≤ n) (hm3 : σ.2.1 60303 m 0 = some a) (hz : σ.1 30300 a 0 = 1) (hnx : σ2.2.1 61106 m 0 = none)
    (e0 : ∀ x, σ.2.2.2 x = 3 → σ2.1 30300 x 0 = σ.1 30300 x 0) (e1 : ∀ x, σ.2.2.2 x = 3 → x ≠ a → σ2.2.1 30406 x 0 = σ.2.1 30406 x 0 ∧ σ2.2.1 30506 x 0 = σ.2.1 30506 x 0) (e2 : σ2.2.1 30506 a 0 = some m) (e3 : σ2.2.1 30406 a 0 = if g.Q a = [] then some m else σ.2.1 30406 a 0)
    (e4 : ∀ m', σ.2.2.2 m' = 6 → some m' ≠ (g.Q a).getLast? → σ2.2.1 61106 m' 0 = σ.2.1 61106 m' 0) (e5 : ∀ m', (g.Q a).getLast? = some m' → σ2.2.1 61106 m' 0 = some m) : RR E (gQ g a (g.Q a ++ [m])) n σ2 := by
  have a3 : σ.2.2.2 a = 3 := R.s.wf _ _ _ _ hm3 (by decide)
  refine R.link hn hq ha A hT (upN g.Q a (g.Q a ++ [m])) (A.rq R hq ha _ (fun _ => rfl) (fun x z => upN_n (fun e => z ⟨rfl, by rw [e]; exact hm3⟩)) (fun x x3 z => ?_) (fun x k2 hx h => ?_))
  · have hxa : x ≠ a := fun e => z ⟨rfl, by rw [e]; exact hm3⟩
    refine ⟨(e1 x x3 hxa).1, (e1 x x3 hxa).2, e0 x x3, fun m' hm' ho => ?_⟩
    obtain ⟨o, c', ho, hc'⟩ := ho
    refine e4 m' (R.s.wf _ _ _ _ hc'.2.1 (by decide)) (fun e => ?_)
    have hmem : m' ∈ g.Q a := List.mem_of_getLast? e.symm
    obtain ⟨c2, hc2, -⟩ := (R.q.1 a q a3 (A.f3a a hm3).1 hq (A.f3a a hm3).2).2.2.1 m' hmem
    exact hxa (Option.some.inj (hc'.2.2.2.symm.trans hc2.2.2.2))
  · have hxa : x = a := Option.some.inj (hx.symm.trans hm3)
    subst hxa
    obtain ⟨g1, g2, g3, g4, g5, g6, g7⟩ := h
    have w : ∀ {c' m'}, ow g σ2 q x c' m' ↔ (ow g σ q x c' m' ∨ (c' = c ∧ m' = m)) := by
      intro c' m'
      rw [A.wo R hq hq]
      exact ⟨fun y => y.imp id (fun z => ⟨z.2.1, z.2.2.1⟩), fun y => y.imp id (fun z => ⟨rfl, z.1, z.2, rfl, hm3⟩)⟩
    have stt : ∀ {c' m'}, ow g σ q x c' m' → σ2.1 610000 (g.A 10) (g.B m') = σ.1 610000 (g.A 10) (g.B m') ∧ σ2.1 670000 (g.A 16) (g.B m') = σ.1 670000 (g.A 16) (g.B m') := fun hm => by
      obtain ⟨n1, n2, n3, n4, n5, n6, n7, -⟩ := A.rn _ (A.ne R hq ha hq hm.1 hm.2.1)
      exact ⟨n1, n7⟩
    have nd : (g.Q x).Nodup := List.Pairwise.imp (fun {a b} hab e => by
      rw [e, Int32.lt_iff_toInt_lt] at hab; omega) g4
    have eQ : (gq g (upN g.Q x (g.Q x ++ [m]))).Q x = g.Q x ++ [m] := upN_s
    unfold RQa
    rw [eQ]
    show chn (fun m => σ2.2.1 61106 m 0) (σ2.2.1 30406 x 0) (g.Q x ++ [m]) ∧ σ2.2.1 30506 x 0 = (g.Q x ++ [m]).getLast? ∧ (∀ m', m' ∈ g.Q x ++ [m] → ∃ c, ow g σ2 q x c m' ∧ σ2.1 610000 (g.A 10) (g.B m') = 1) ∧ (g.Q x ++ [m]).Pairwise (fun m m' => σ2.1 670000 (g.A 16) (g.B m) < σ2.1 670000 (g.A 16) (g.B m')) ∧ (∀ c m', ow g σ2 q x c m' → σ2.1 610000 (g.A 10) (g.B m') = 1 → m' ∈ g.Q x ++ [m]) ∧ ((σ2.1 30300 x 0 = 0 ∧ ∀ c m, ¬ ow g σ2 q x c m) ∨ (σ2.1 30300 x 0 = 1 ∧ ∃ c m, ow g σ2 q x c m)) ∧ (∀ c c' m m', ow g σ2 q x c m → ow g σ2 q x c' m' → ¬ σ2.1 610000 (g.A 10) (g.B m) = 1 → ¬ σ2.1 610000 (g.A 10) (g.B m') = 1 → m = m')
    simp only [w]
    refine ⟨?_, ?_, fun m' hm' => ?_, ?_, fun c' m' hm' hs => ?_, Or.inr ⟨by rw [e0 x a3]; exact hz, c, m, Or.inr ⟨rfl, rfl⟩⟩, fun c1 c2 m1 m2 h1 h2 s1 s2 => ?_⟩
    · rw [e3]
      exact chn_app (nx := fun m => σ.2.1 61106 m 0) (nx' := fun m => σ2.2.1 61106 m 0) hnx g1 nd (fun y hy hne => by
        obtain ⟨c', hc', -⟩ := g3 y hy
        exact e4 y (R.s.wf _ _ _ _ hc'.2.1 (by decide)) hne) e5
    · rw [e2]; simp
    · rcases List.mem_append.mp hm' with z | z
      · obtain ⟨c', hc', hs⟩ := g3 m' z
        exact ⟨c', Or.inl hc', by rw [(stt hc').1]; exact hs⟩
      · have : m' = m := List.mem_singleton.mp z
        subst this
        exact ⟨c, Or.inr ⟨rfl, rfl⟩, A.r0⟩
    · rw [List.pairwise_append]
      refine ⟨List.Pairwise.imp_of_mem (fun {y z} hy hz hyz => ?_) g4, List.pairwise_singleton _ _, fun y hy z hz => ?_⟩
      · obtain ⟨c1, h1, -⟩ := g3 y hy
        obtain ⟨c2, h2, -⟩ := g3 z hz
        rw [(stt h1).2, (stt h2).2]; exact hyz
      · have : z = m := List.mem_singleton.mp hz
        subst this
        obtain ⟨c1, h1, -⟩ := g3 y hy
        rw [(stt h1).2, A.r6]
        obtain ⟨k', s', l', it', t', T', a1', a2', a3', x1, x2, x3, x4, x5, x6, x7, x8, x9, x10, x11, x12, x13, x14, x15, x16, x17, x18, x19, x20, x21, x22, x23, x24, x25, x26, x27, x28, x29⟩ := ((R.a q hq).1 ha).2.1 c1 y h1.1 h1.2.1
        have hTT : T' = T := (nI_eq (by omega) (by omega)).mp (x27.symm.trans A.t1)
        rw [x26, nI_ltI (by omega) (by omega)]; omega
    · rcases hm' with hm' | ⟨-, rfl⟩
      · rw [(stt hm').1] at hs
        exact List.mem_append.mpr (Or.inl (g5 c' m' hm' hs))
      · exact List.mem_append.mpr (Or.inr List.mem_cons_self)
    · rcases h1 with h1 | ⟨-, rfl⟩
      · rcases h2 with h2 | ⟨-, rfl⟩
        · rw [(stt h1).1] at s1
          rw [(stt h2).1] at s2
          exact g7 c1 c2 m1 m2 h1 h2 s1 s2
        · exact absurd A.r0 s2
      · exact absurd A.r0 s1
end LK
end FRM
