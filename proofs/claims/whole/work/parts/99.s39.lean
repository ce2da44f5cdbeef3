section PST
variable {E : FE} {g : Gh} {σ σ' σ1 σ2 τ τ' : Sg} {n m : Nat} {A : Nat → Nat} {p q b it z : Nat} {w y t tv : Int32}
theorem fl_c (h : MEq A m τ τ') : flF τ m A p q it z w y t = flF τ' m A p q it z w y t := by
  unfold flF fl1 fl2 fl3
  rw [hmO_c h, hmK_c h, itm_c h, h.a (by decide) (by decide), h.a (by decide) (by decide), h.a (by decide) (by decide), h.a (by decide) (by decide), h.a (by decide) (by decide), h.a (by decide) (by decide)]
theorem nx_c (h : MEq A m τ τ') : nxS τ A q = nxS τ' A q ∧ bhS τ A q = bhS τ' A q := by
  constructor
  · funext c; unfold nxS; rw [h.a (by decide) (by decide), h.a (by decide) (by decide)]
  · funext c; unfold bhS; rw [h.a (by decide) (by decide), h.a (by decide) (by decide), h.a (by decide) (by decide)]
theorem msnM_c (h : MEq A m τ τ') : msnM τ m A p q y w = msnM τ' m A p q y w := by
  unfold msnM; rw [tgt_c h, h.a (by decide) (by decide), h.a (by decide) (by decide), h.a (by decide) (by decide)]
/-- what the class has may stand anywhere: the model's turns alone -/
def IVp (g : Gh) (n p q b it : Nat) (V : Nat → Option Nat) (υ0 σ : Sg) : Nat → Sg → Prop := fun i τ => ∃ τc υ, PI g n p q b (g.D p 10) (g.D p 11) 0 0 0 it V υ0 σ i τc υ ∧ MEq g.A g.m τ υ
theorem IVp.step {V : Nat → Option Nat} {υ0 : Sg} {i : Nat} (R : RR E g n σ) (hn : n ≤ 512) (hq : q < 4) (hV : ∀ j a, j < it → V j = some a → σ.2.2.2 a = 3) (h4 : it ≤ 4) (hi : i < it) (h : IVp g n p q b it V υ0 σ i τ) :
    IVp g n p q b it V υ0 σ (i + 1) (mv2 g.A p q b i τ) ∧ (¬ τ.1 710000 (g.A 20) (4 * b + i) < 0 → hmO τ g.A q (τ.1 710000 (g.A 20) (4 * b + i)) = 0 → hmK τ g.A q (τ.1 710000 (g.A 20) (4 * b + i)) ≤ 0 → ∃ j, 1 ≤ j ∧ j < 16 ∧ hhF (τ.1 550000 (g.A 4)) (τ.1 560000 (g.A 5)) q (nI j) = 0) := by
  obtain ⟨τc, υ, I, hM⟩ := h
  obtain ⟨I2, hf⟩ := I.step R hn hq (R.s.nm q hq) hV h4 hi
  refine ⟨⟨_, _, I2, mv2_M.2 _ _ hM⟩, ?_⟩
  rw [hmO_c hM, hmK_c hM, hM.a (by decide) (by decide), hM.a (by decide) (by decide), hM.a (by decide) (by decide)]
  exact hf
/-- numbers of the room -/
theorem RR.rm {k : Nat} (R : RR E g n σ) (hn : n ≤ 512) (hq : q < 4) (haq : al g σ q) (hk : σ.1 40300 (g.D p 8) 0 = nI it) (hk4 : it ≤ 4) (hz : σ.1 40400 (g.D p 8) 0 = nI z) (hz4 : z ≤ 20) (hkk : k ≤ 3) (h : ¬ hrfF (pstN σ g.x g.D p it) (g.D q) (g.D p 8) (g.D p 11) it (nI k) = 0) :
    sumR (hcnt (σ.2.1 120003 (g.D q 3))) 15 1 + sumR (nwN ((pstN σ g.x g.D p it).2.1 180003 (g.D p 11)) (ownF σ (g.D q 0)) (σ.2.1 120003 (g.D q 3))) it 0 ≤ 15 ∧ (k = 2 → ∀ u, σ.1 90200 (g.D q 6) 0 = nI u → u ≤ 32 → u + max 1 (it + z) ≤ 32) ∧ ¬ bgR σ (g.D q 7) (nI (max 1 (it + z))) = -1 := by
  obtain ⟨N1, N2, N3, N4, N5⟩ := pstN_r (σ := σ) (x := g.x) (j := p) (k := it) (D := g.D)
  obtain ⟨H, hu⟩ := (R.h q hq).1 haq
  have ecel : celF (pstN σ g.x g.D p it) (g.D p 8) = nI (max 1 (it + z)) := cel_eq (by rw [N1]; exact hk) (by rw [N1]; exact hz) hk4 hz4
  have ebg : bgR (pstN σ g.x g.D p it) (g.D q 7) (nI (max 1 (it + z))) = bgR σ (g.D q 7) (nI (max 1 (it + z))) := bg_c (fun i => N3 _ _ _ (by decide)) N1
  have eo : ownF (pstN σ g.x g.D p it) (g.D q 0) = ownF σ (g.D q 0) := by funext a; unfold ownF; rw [N1]
  have en : (pstN σ g.x g.D p it).2.1 120003 (g.D q 3) = σ.2.1 120003 (g.D q 3) := funext fun x => N3 _ _ _ (by decide)
  unfold hrfF at h
  rw [ecel, ebg, cnh_n, N1, hu, H.cnt (by omega), eo, en, nI_add] at h
  have hc1 := sumR_le (f := hcnt (σ.2.1 120003 (g.D q 3))) (M := 1) 15 1 (fun j _ _ => hcnt_le j)
  have hc2 := sumR_le (f := nwN ((pstN σ g.x g.D p it).2.1 180003 (g.D p 11)) (ownF σ (g.D q 0)) (σ.2.1 120003 (g.D q 3))) (M := 1) it 0 (fun j _ _ => by
    unfold nwN
    repeat' split
    all_goals omega)
  have e15 : ∀ a : Nat, a < 100 → (nI a > 15 ↔ 15 < a) := fun a ha => by rw [show (15 : Int32) = nI 15 from rfl]; exact nI_ltI (by omega) (by omega)
  by_cases c1 : bgR σ (g.D q 7) (nI (max 1 (it + z))) = -1
  · rw [if_pos c1] at h; exact absurd rfl h
  · rw [if_neg c1] at h
    have k2 : nI k = 2 ↔ k = 2 := nI_eq (b := 2) (by omega) (by omega)
    by_cases c2 : k = 2
    · rw [if_pos (k2.mpr c2)] at h
      by_cases c3 : σ.1 90200 (g.D q 6) 0 + nI (max 1 (it + z)) ≤ 32
      · rw [if_pos c3] at h
        by_cases c4 : nI (sumR (hcnt (σ.2.1 120003 (g.D q 3))) 15 1 + sumR (nwN ((pstN σ g.x g.D p it).2.1 180003 (g.D p 11)) (ownF σ (g.D q 0)) (σ.2.1 120003 (g.D q 3))) it 0) > 15
        · rw [if_pos c4] at h; exact absurd rfl h
        · rw [e15 _ (by omega)] at c4
          refine ⟨by omega, fun _ u eu hu => ?_, c1⟩
          rw [eu, nI_add, nl32, nI_leI (by omega) (by omega)] at c3
          exact c3
      · rw [if_neg c3] at h; exact absurd rfl h
    · rw [if_neg (fun h => c2 (k2.mp h))] at h
      by_cases c4 : nI (sumR (hcnt (σ.2.1 120003 (g.D q 3))) 15 1 + sumR (nwN ((pstN σ g.x g.D p it).2.1 180003 (g.D p 11)) (ownF σ (g.D q 0)) (σ.2.1 120003 (g.D q 3))) it 0) > 15
      · rw [if_pos c4] at h; exact absurd rfl h
      · rw [e15 _ (by omega)] at c4
        exact ⟨by omega, fun h9 => absurd h9 c2, c1⟩
/-- the row, and the model's turns, where there is room -/
theorem RR.mod (R : RR E g n σ) (hn : n ≤ 512) (hp : p < 4) (ha : al g σ p) (hq : q < 4) (haq : al g σ q) (hk : σ.1 40300 (g.D p 8) 0 = nI it) (hk4 : it ≤ 4) (hz : σ.1 40400 (g.D p 8) 0 = nI z) (hz4 : z ≤ 20) (hfl : flF σ g.m g.A p q it z w y (bgR σ (g.D q 7) (nI (max 1 (it + z)))) = 0) :
    ∃ b, (64 * q ≤ b ∧ b < 64 * q + 64 ∧ σ.1 610000 (g.A 10) b ≤ 0 ∧ (∀ i, 64 * q ≤ i → i < b → ¬ σ.1 610000 (g.A 10) i ≤ 0)) ∧ ∀ (μ X0 : Sg) (w' tv' t' : Int32), (∀ c x i, c ≠ 740000 → μ.1 c x i = σ.1 c x i) → MEq g.A g.m X0 μ →
      IVp g n p q b it ((pstN σ g.x g.D p it).2.1 180003 (g.D p 11)) (itF (mv1 g.A g.m p b) it 0 (mvA μ g.m g.A p b it z w' tv' t')) σ 0 (itF (mv1 g.A g.m p b) it 0 (mvA X0 g.m g.A p b it z w' tv' t')) := by
  obtain ⟨N1, N2, N3, N4, N5⟩ := pstN_r (σ := σ) (x := g.x) (j := p) (k := it) (D := g.D)
  have hr := ((R.room (kk := nI (if w = 0 then 1 else 2)) hn hp ha hq haq hk hk4 hz hz4 (by
    by_cases c : w = 0
    · rw [if_pos c]; exact ⟨fun h => absurd h (by decide), fun h => absurd c h⟩
    · rw [if_neg c]; exact ⟨fun _ => c, fun _ => rfl⟩)).mpr hfl).2
  obtain ⟨h1, -, h3⟩ := R.rm hn hq haq hk hk4 hz hz4 (by split <;> omega) hr
  rcases R.fit hq haq (L := max 1 (it + z)) (by omega) (by omega) with e | ⟨c, e, ec, ef, -⟩
  · exact absurd e h3
  · obtain ⟨b, r1, r2, r3, r4⟩ := R.row hq haq (c := c) (by omega) (ef c (Nat.le_refl _) (by omega))
    refine ⟨b, ⟨r1, r2, r3, r4⟩, fun μ X0 w' tv' t' hμ hX => ?_⟩
    refine ⟨(σ.1, fun c x i => if c = 330003 then none else (pstN σ g.x g.D p it).2.1 c x i, σ.2.2), _, pi_g R hn hp ha hq haq hk hk4 hμ (fun _ _ _ _ _ _ => rfl) (funext fun i => ?_) (fun i hi => ?_) (fun i => rfl) h1, ?_⟩
    · show (if 120003 = 330003 then none else (pstN σ g.x g.D p it).2.1 120003 (g.D q 3) i) = _
      rw [if_neg (by decide)]; exact N3 _ _ _ (by decide)
    · show (if 180003 = 330003 then none else (pstN σ g.x g.D p it).2.1 180003 (g.D p 11) i) = _
      rw [if_neg (by decide)]; exact N5 i hi
    · exact (MOp.it (fun _ => mv1_M) it 0).2 _ _ (mvA_M.2 _ _ hX)
theorem RR.vk {i a : Nat} (R : RR E g n σ) (hi : i < it) (h : (pstN σ g.x g.D p it).2.1 180003 (g.D p 11) i = some a) : σ.2.2.2 a = 3 := by
  rw [(pstN_r (σ := σ) (x := g.x) (j := p) (k := it) (D := g.D)).2.2.2.2 i hi] at h
  exact R.fnk h
/-- busy or not -/
theorem RR.busy {a : Nat} (R : RR E g n σ) (hn : n ≤ 512) (hq : q < 4) (ha : al g σ q) (a3 : σ.2.2.2 a = 3) (hd : σ.1 30200 a 0 = 0) (ho : σ.1 30000 a 0 = nI q) : itF (bsyF (σ.1 610000 (g.A 10)) (σ.1 640000 (g.A 13)) (σ.1 650000 (g.A 14)) (nI (g.N a))) 64 (64 * q) 0 = σ.1 30300 a 0 := by
  obtain ⟨A0, AM, -⟩ := (R.a q hq).1 ha
  obtain ⟨-, -, -, -, -, h6, -⟩ := R.q.1 a q a3 hd hq ho
  have row : ∀ b, 64 * q ≤ b → b < 64 * q + 64 → ((¬ σ.1 610000 (g.A 10) b ≤ 0 ∧ ¬ σ.1 640000 (g.A 13) b = 0 ∧ σ.1 650000 (g.A 14) b = nI (g.N a)) ↔ ∃ c m, ow g σ q a c m ∧ g.B m = b) := by
    intro b h1 h2
    constructor
    · rintro ⟨y1, y2, y3⟩
      obtain ⟨c, m, hc, hm, rfl⟩ := A0.2 b h1 h2 y1
      obtain ⟨k, s, l, it, t, T, a1, a2, a3', x1, x2, x3, x4, x5, x6, x7, x8, x9, x10, x11, x12, x13, x14, x15, x16, -⟩ := AM c m hc hm
      rw [x13] at y2
      have k2 : k = 2 := by
        by_cases z : k = 2
        · exact z
        · rw [if_neg z] at y2; exact absurd rfl y2
      subst k2
      refine ⟨c, m, ⟨hc, hm, x1, ?_⟩, rfl⟩
      rcases x14 with ⟨-, e⟩ | ⟨a', e1, e2⟩
      · rw [e] at y3
        have := R.no.ok R.p (by omega) a3
        exact absurd y3.symm (nI_m1 _ (by omega))
      · have k3 := R.s.wf _ _ _ _ e1 (by decide)
        have h7 := R.no.ok R.p (by omega) k3
        have h8 := R.no.ok R.p (by omega) a3
        rw [e1]
        exact congrArg some (R.no.2.1 a' a k3 a3 ((nI_eq (by omega) (by omega)).mp (e2.symm.trans y3)))
    · rintro ⟨c, m, ⟨hc, hm, e1, e2⟩, rfl⟩
      obtain ⟨b1, b2, b3, -⟩ := A0.1 c m hc hm
      obtain ⟨k, s, l, it, t, T, a1, a2, a3', x1, x2, x3, x4, x5, x6, x7, x8, x9, x10, x11, x12, x13, x14, x15, x16, -⟩ := AM c m hc hm
      have k2 : k = 2 := (nI_eq (b := 2) (by omega) (by omega)).mp (x1.symm.trans e1)
      refine ⟨b3, by rw [x13, if_pos k2]; decide, ?_⟩
      rcases x14 with ⟨e, -⟩ | ⟨a', e3, e4⟩
      · rw [e2] at e; cases e
      · rw [e2] at e3; cases e3; exact e4
  have gen := itF_ind (f := bsyF (σ.1 610000 (g.A 10)) (σ.1 640000 (g.A 13)) (σ.1 650000 (g.A 14)) (nI (g.N a))) (fun i v => (v = 0 ∧ ∀ b, 64 * q ≤ b → b < i → ¬ (¬ σ.1 610000 (g.A 10) b ≤ 0 ∧ ¬ σ.1 640000 (g.A 13) b = 0 ∧ σ.1 650000 (g.A 14) b = nI (g.N a))) ∨ (v = 1 ∧ ∃ c m, ow g σ q a c m)) 64 (64 * q) 0 (Or.inl ⟨rfl, fun b h1 h2 => by omega⟩) (fun i v h1 h2 hv => by
    unfold bsyF
    rcases hv with ⟨rfl, hv⟩ | ⟨rfl, hv⟩
    · rw [if_pos rfl]
      by_cases z : ¬ σ.1 610000 (g.A 10) i ≤ 0 ∧ ¬ σ.1 640000 (g.A 13) i = 0 ∧ σ.1 650000 (g.A 14) i = nI (g.N a)
      · rw [if_neg z.1, if_neg z.2.1, if_pos z.2.2]
        obtain ⟨c, m, hm, -⟩ := (row i h1 h2).mp z
        exact Or.inr ⟨rfl, c, m, hm⟩
      · have e : (if σ.1 610000 (g.A 10) i ≤ 0 then (0 : Int32) else if σ.1 640000 (g.A 13) i = 0 then 0 else if σ.1 650000 (g.A 14) i = nI (g.N a) then 1 else 0) = 0 := by
          by_cases y1 : σ.1 610000 (g.A 10) i ≤ 0
          · rw [if_pos y1]
          · rw [if_neg y1]
            by_cases y2 : σ.1 640000 (g.A 13) i = 0
            · rw [if_pos y2]
            · rw [if_neg y2]
              by_cases y3 : σ.1 650000 (g.A 14) i = nI (g.N a)
              · exact absurd ⟨y1, y2, y3⟩ z
              · rw [if_neg y3]
        rw [e]
        refine Or.inl ⟨rfl, fun b b1 b2 => ?_⟩
        by_cases e2 : b = i
        · subst e2; exact z
        · exact hv b b1 (by omega)
    · rw [if_neg (by decide)]; exact Or.inr ⟨rfl, hv⟩)
  rcases gen with ⟨e, h⟩ | ⟨e, c, m, hm⟩
  · rw [e]
    rcases h6 with ⟨y, -⟩ | ⟨-, c, m, hm⟩
    · exact y.symm
    · have hb := RBn.of R.a q c m hq hm.1 hm.2.1
      exact absurd ((row (g.B m) hb.1 hb.2).mpr ⟨c, m, hm, rfl⟩) (h (g.B m) hb.1 (by omega))
  · rw [e]
    rcases h6 with ⟨-, y⟩ | ⟨y, -⟩
    · exact absurd hm (y c m)
    · exact y.symm
end PST
