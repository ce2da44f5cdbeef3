/-! a call of the law, on both sides -/
theorem CT.mn {l : Launch} {E : FE} {d mid mc ms : Nat} {av : List MV} {σ : Sg} {Q Q' : Option MV → Sg → Prop} {X : String → Sg → Prop} (h : CT l E d mid av σ mc ms Q X) (hq : ∀ r σ', Q r σ' → Q' r σ') : CT l E d mid av σ mc ms Q' X := by
  refine MetFree.mono h (fun _ _ h => h) (fun _ _ _ _ _ h => h) ?_
  rintro a st o t - (⟨⟨⟨r, σ', e, hQ, hR⟩, hF⟩, hL⟩ | h9)
  · exact Or.inl ⟨⟨⟨r, σ', e, hq r σ' hQ, hR⟩, hF⟩, hL⟩
  · exact Or.inr h9
def PO (E : FE) (x m o : Nat) (A : Nat → Nat) (n : Nat) (k : Int32) (s : Sg) : Prop := ∃ g : Gh, RR E g n s ∧ g.x = x ∧ g.m = m ∧ g.A = A ∧ s.1 500000 m 0 = k ∧ s.2.2.2 o = 90
def fIL (v : Int32) : Int64 := v.toInt64
def fZL (v : Int32) : Int64 := if v = 0 then 0 else 1
def MCT (l : Launch) (E : FE) (mid : Nat) (av : List MV) (x m o : Nat) (A : Nat → Nat) (n : Nat) (k : Int32) (f : Int32 → Int64) (s : Sg) : Prop := s.2.2.2 m = 50 ∧ CT l E 8 mid av s 0 0 (fun r s2 => ∃ v, r = some (vI v) ∧ PO E x m o A n k s2 ∧ (k = 0 → s2.2.2.1 o 0 = f v)) (fun _ _ => False)
def MCV (l : Launch) (E : FE) (mid : Nat) (av : List MV) (x m o : Nat) (A : Nat → Nat) (n : Nat) (k : Int32) (s : Sg) : Prop := s.2.2.2 m = 50 ∧ CT l E 8 mid av s 0 0 (fun r s2 => r = none ∧ PO E x m o A n k s2) (fun _ _ => False)
section STP
variable {l : Launch} {E : FE} {g : Gh} {n o mid : Nat} {σ s : Sg} {av : List MV} {f : Int32 → Int64} {p k : Int32}
theorem RR.alv (R : RR E g n σ) {j : Nat} (hj : j < 4) (h : ¬ σ.1 20800 (g.D j 0) 0 = 0) : al g σ j := by
  obtain ⟨p1, p2, -⟩ := R.p j hj
  rw [p1] at h
  exact p2.resolve_left h
theorem oX_two {D : Nat → Nat → Nat} : ∀ X s, oX σ D p X s → X = "java/lang/IllegalArgumentException" ∨ X = "java/lang/IllegalStateException" := by
  rintro X s ⟨-, ⟨e, -⟩ | ⟨e, -⟩⟩
  · exact Or.inl e
  · exact Or.inr e
theorem nX_three {D : Nat → Nat → Nat} {no : Nat → Prop} : ∀ X s, nX σ D p no X s → X = "java/lang/IllegalArgumentException" ∨ X = "java/lang/IllegalStateException" ∨ X = "java/util/NoSuchElementException" := by
  rintro X s (h | ⟨e, -⟩)
  · rcases oX_two X s h with e | e
    · exact Or.inl e
    · exact Or.inr (Or.inl e)
  · exact Or.inr (Or.inr e)
theorem oX_1 (h : oX σ g.D p "java/lang/IllegalArgumentException" s) : s = σ ∧ absF (σ.1 510000 (g.A 0)) p = 1 := by
  obtain ⟨e, ⟨-, h⟩ | ⟨h, -⟩⟩ := h
  · exact ⟨e, abs_IA h⟩
  · exact absurd h (by decide)
theorem oX_2 (R : RR E g n σ) (h : oX σ g.D p "java/lang/IllegalStateException" s) : s = σ ∧ absF (σ.1 510000 (g.A 0)) p = 2 := by
  obtain ⟨e, ⟨h, -⟩ | ⟨-, j, hj, rfl, h⟩⟩ := h
  · exact absurd h (by decide)
  · refine ⟨e, ?_⟩
    rw [abs_j hj, if_pos]
    rw [← (R.p j hj).1]; exact h
theorem nX_1 {no : Nat → Prop} (h : nX σ g.D p no "java/lang/IllegalArgumentException" s) : s = σ ∧ absF (σ.1 510000 (g.A 0)) p = 1 := by
  rcases h with h | ⟨h, -⟩
  · exact oX_1 h
  · exact absurd h (by decide)
theorem nX_2 {no : Nat → Prop} (R : RR E g n σ) (h : nX σ g.D p no "java/lang/IllegalStateException" s) : s = σ ∧ absF (σ.1 510000 (g.A 0)) p = 2 := by
  rcases h with h | ⟨h, -⟩
  · exact oX_2 R h
  · exact absurd h (by decide)
theorem nX_3 {no : Nat → Prop} (h : nX σ g.D p no "java/util/NoSuchElementException" s) : s = σ ∧ ∃ j, j < 4 ∧ p = nI j ∧ ¬ σ.1 20800 (g.D j 0) 0 = 0 ∧ no j := by
  rcases h with ⟨-, ⟨h, -⟩ | ⟨h, -⟩⟩ | ⟨-, h⟩
  · exact absurd h (by decide)
  · exact absurd h (by decide)
  · exact h
theorem PO.th (R : RR E g n σ) (ho : σ.2.2.2 o = 90) : PO E g.x g.m o g.A (n + 1) k (sI σ 500000 g.m 0 k) := ⟨g, (R.th k).mono (Nat.le_succ n), rfl, rfl, rfl, rIs, ho⟩
/-- the model says that nobody is there -/
theorem absM (R : RR E g n σ) (ho : σ.2.2.2 o = 90) (hk : absF (σ.1 510000 (g.A 0)) p = k) (h0 : k ≠ 0) (hc : CT l E 8 mid av σ 0 0 (fun r σ' => r = some (vI 0) ∧ σ' = sI σ 500000 g.m 0 (absF (σ.1 510000 (g.A 0)) p)) (fun _ _ => False)) : MCT l E mid av g.x g.m o g.A (n + 1) k f σ := by
  refine ⟨R.s.mo.1, mono_la_20 hc ?_⟩
  rintro r s2 ⟨rfl, rfl⟩
  rw [hk]
  exact ⟨0, rfl, PO.th R ho, fun h => absurd h h0⟩
theorem absV (R : RR E g n σ) (ho : σ.2.2.2 o = 90) {y : Int32} (hk : y = k) (hc : CT l E 8 mid av σ 0 0 (fun r σ' => r = none ∧ σ' = sI σ 500000 g.m 0 y) (fun _ _ => False)) : MCV l E mid av g.x g.m o g.A (n + 1) k σ := by
  refine ⟨R.s.mo.1, mono_la_20 hc ?_⟩
  rintro r s2 ⟨rfl, rfl⟩
  rw [hk]
  exact ⟨rfl, PO.th R ho⟩
/-- the model answers as the class -/
theorem nrm {F : Sg → Int32 × Sg} {x m : Nat} {A : Nat → Nat} {g' : Gh} {v : Int32} {s0 σ2 : Sg} (FX : ∀ σ τ, F (sX σ τ) = ((F σ).1, sX (F σ).2 τ)) (hF : F s0 = (v, σ2)) (R2 : RR E g' n σ2) (ex : g'.x = x) (em : g'.m = m) (eA : g'.A = A) (t0 : σ2.1 500000 m 0 = 0) (ho : s0.2.2.2 o = 90) (hc : MO (sJ s0 o 0 (f v)) m A → CT l E 8 mid av (sJ s0 o 0 (f v)) 0 0 (fun r σ' => r = some (vI (F (sJ s0 o 0 (f v))).1) ∧ σ' = (F (sJ s0 o 0 (f v))).2) (fun _ _ => False)) : MCT l E mid av x m o A n 0 f (sJ s0 o 0 (f v)) := by
  have e0 := FX s0 s0
  rw [show sX s0 s0 = s0 from rfl, hF] at e0
  have e1 : σ2.2 = s0.2 := by rw [(Prod.mk.inj e0).2]; rfl
  have e2 : F (sJ s0 o 0 (f v)) = (v, sX σ2 (sJ s0 o 0 (f v))) := by
    have := FX s0 (sJ s0 o 0 (f v))
    rw [hF] at this; exact this
  have hM : MO (sJ s0 o 0 (f v)) m A := by
    have h1 : MO s0 m A := MO.of2 (em ▸ eA ▸ R2.s.mo) e1.symm
    exact h1
  refine ⟨hM.1, mono_la_20 (hc hM) ?_⟩
  rintro r s2 ⟨rfl, rfl⟩
  rw [e2]
  refine ⟨v, rfl, ⟨g', R2.sx rfl ?_ ?_, ex, em, eA, t0, ho⟩, fun _ => ?_⟩
  · show s0.2.1 = σ2.2.1; rw [e1]
  · show s0.2.2.2 = σ2.2.2.2; rw [e1]
  · show (if o = o ∧ 0 = 0 then f v else s0.2.2.1 o 0) = f v
    rw [if_pos ⟨rfl, rfl⟩]
theorem ct_abs {F : Int32 × Sg} {y : Sg} (h : CT l E 8 mid av σ 0 0 (fun r σ' => r = some (vI F.1) ∧ σ' = F.2) (fun _ _ => False)) (e : F = (0, y)) : CT l E 8 mid av σ 0 0 (fun r σ' => r = some (vI 0) ∧ σ' = y) (fun _ _ => False) := by
  rw [e] at h; exact h
theorem ab_no {m : Nat} {A : Nat → Nat} (h : absF (σ.1 510000 (A 0)) p = k) (hk : k ≠ 0) : ¬ abI σ A p = 0 := by
  unfold abI
  rw [h, if_neg hk]; decide
theorem omg_1 {x a : Nat} {y : Int32} : (omgF σ x a y).2.1 = σ.1 := by
  unfold omgF
  split
  · rfl
  · split <;> rfl
theorem app_1 {a a1 a2 c x i : Nat} {y z : Int32} (hc : 500000 ≤ c) : (appF σ a a1 a2 y z).2.1 c x i = σ.1 c x i := by
  unfold appF
  split
  · rfl
  · split
    · rfl
    · split
      · show (sI (sI (sI σ 160000 a1 _ y) 170000 a2 _ z) 40300 a 0 _).1 c x i = σ.1 c x i
        rw [rII (by omega), rII (by omega), rII (by omega)]
      · rfl
theorem RR.hits (R : RR E g n σ) : ∀ j, j < 4 → σ.1 40300 (g.D j 8) 0 = nI (σ.1 40300 (g.D j 8) 0).toNatClampNeg ∧ (σ.1 40300 (g.D j 8) 0).toNatClampNeg ≤ 4 := by
  intro j hj
  obtain ⟨k, z, d1, d2, d3, d4, d5, d6⟩ := R.d j hj
  by_cases ha : al g σ j
  · rw [(d5 ha).1, nI_clamp (by omega)]; exact ⟨rfl, d1⟩
  · rw [(d6 ha).1]; exact ⟨rfl, by decide⟩
theorem RR.cel (R : RR E g n σ) {j : Nat} (hj : j < 4) : ∃ L, 1 ≤ L ∧ L ≤ 64 ∧ celF σ (g.D j 8) = nI L := by
  obtain ⟨k, z, d1, d2, d3, d4, d5, d6⟩ := R.d j hj
  by_cases ha : al g σ j
  · exact ⟨max 1 (k + z), by omega, by omega, cel_eq (d5 ha).1 (d5 ha).2.1 d1 d2⟩
  · exact ⟨max 1 (0 + 0), by omega, by omega, cel_eq (k := 0) (z := 0) (d6 ha).1 (d6 ha).2 (by omega) (by omega)⟩
theorem RR.bg9 (R : RR E g n σ) {j q : Nat} (hj : j < 4) (hq : q < 4) (ha : al g σ q) (h : ¬ bgR σ (g.D q 7) (celF σ (g.D j 8)) = -1) : ∃ c, c < 64 ∧ bgR σ (g.D q 7) (celF σ (g.D j 8)) = nI c := by
  obtain ⟨L, l1, l2, e⟩ := R.cel hj
  rw [e] at h ⊢
  rcases R.fit hq ha l1 l2 with z | ⟨c, c1, c2, -⟩
  · exact absurd z h
  · exact ⟨c, by omega, c1⟩
theorem RR.own9 (R : RR E g n σ) (hn : n ≤ 512) (y : Int32) : ∀ j a, j < 4 → snF σ g.x (g.D j) y = some a → σ.1 30200 a 0 = 0 → ∃ q, q < 4 ∧ σ.1 30000 a 0 = nI q ∧ (¬ bgR σ (g.D q 7) (celF σ (g.D j 8)) = -1 → ∃ g9, g9 < 64 ∧ bgR σ (g.D q 7) (celF σ (g.D j 8)) = nI g9) := by
  intro j a hj h h0
  have k3 : σ.2.2.2 a = 3 := by
    unfold snF at h
    split at h
    · exact R.s.wf _ _ _ _ h (by decide)
    · unfold strongF at h
      split at h
      · cases h
      · split at h
        · cases h
        · exact R.s.wf _ _ _ _ h (by decide)
  obtain ⟨q, h1, h2, h3, -⟩ := R.own hn k3 h0
  exact ⟨q, h1, h2, fun z => R.bg9 hj h1 h3 z⟩
theorem RR.snd9 (R : RR E g n σ) : ∀ j L m0, j < 4 → g.L2 j = L ++ [m0] → ∃ q, q < 4 ∧ σ.1 60100 m0 0 = nI q ∧ (¬ frmF σ m0 (g.D q 0) = 0 → ¬ bgR σ (g.D q 7) (celF σ (g.D j 8)) = -1 → ∃ g9, g9 < 64 ∧ bgR σ (g.D q 7) (celF σ (g.D j 8)) = nI g9) := by
  intro j L m0 hj e
  obtain ⟨o1, -⟩ := R.o j hj
  obtain ⟨q, l', q1, q2, -⟩ := o1 L.length m0 (by rw [e]; simp)
  refine ⟨q, q2, q1, fun z z2 => R.bg9 hj q2 (R.alv q2 (fun y => z ?_)) z2⟩
  unfold frmF
  rw [if_pos y]
theorem RR.ls (R : RR E g n σ) : (∀ q, q < 4 → (g.L1 q).length ≤ 64) ∧ (∀ q, q < 4 → (g.L2 q).length ≤ 12) ∧ ∀ q, q < 4 → (g.L3 q).length ≤ 8 := by
  refine ⟨fun q hq => (R.i q hq).2.2.2.2, fun q hq => (R.o q hq).2.2.1, fun q hq => ?_⟩
  by_cases z : al g σ q
  · exact ((R.v q hq).1 z).2.2
  · rw [(R.v q hq).2 z]; decide
theorem RR.msg (R : RR E g n σ) : ∀ j, j < 4 → ∀ c m, c < 64 → σ.2.1 150006 (g.D j 7) c = some m → MsR g j c m σ := by
  intro j hj c m hc hm
  by_cases z : al g σ j
  · exact ((R.a j hj).1 z).2.1 c m hc hm
  · rw [((R.a j hj).2 z).1 c hc] at hm; cases hm
theorem RR.w70 (R : RR E g n σ) : ∀ q, q < 4 → (g.L3 q).length ≤ 8 ∧ ∀ w, w ∈ g.L3 q → ∃ a, σ.2.1 70003 w 0 = some a := by
  intro q hq
  refine ⟨R.ls.2.2 q hq, fun w hw => ?_⟩
  by_cases z : al g σ q
  · obtain ⟨i, hi⟩ := List.getElem?_of_mem hw
    obtain ⟨a, h1, -⟩ := ((R.v q hq).1 z).1 i w hi
    exact ⟨a, h1⟩
  · rw [(R.v q hq).2 z] at hw; cases hw
theorem it2 {f : Nat → Sg → Sg} (h : ∀ j s, (f j s).2 = s.2) (k i : Nat) (s : Sg) : (itF f k i s).2 = s.2 := itF_ind (f := f) (fun _ τ => τ.2 = s.2) k i s rfl (fun j b _ _ hb => (h j b).trans hb)
theorem itc {f : Nat → Sg → Sg} {c a x : Nat} (h : ∀ j s, (f j s).1 c a x = s.1 c a x) (k i : Nat) (s : Sg) : (itF f k i s).1 c a x = s.1 c a x := itF_ind (f := f) (fun _ τ => τ.1 c a x = s.1 c a x) k i s rfl (fun j b _ _ hb => (h j b).trans hb)
theorem sI_2 {c a x : Nat} {v : Int32} : (sI σ c a x v).2 = σ.2 := rfl
theorem brn_2 {m p : Nat} {A : Nat → Nat} : (brnS σ m A p).2 = σ.2 := by
  unfold brnS
  dsimp only
  rw [sI_2, sI_2, sI_2, sI_2, sI_2, sI_2, sI_2, sI_2, sI_2, sI_2, sI_2, it2 (fun _ _ => sI_2), it2 (fun _ _ => by rw [sI_2, sI_2]), it2 (fun _ _ => sI_2), sI_2, sI_2, sI_2]
theorem brn_t {m p : Nat} {A : Nat → Nat} : (brnS σ m A p).1 500000 m 0 = 0 := by
  unfold brnS
  dsimp only
  rw [rII (by decide), rII (by decide), rII (by decide), rII (by decide), rII (by decide), rII (by decide), rII (by decide), rII (by decide), rII (by decide), rII (by decide), rII (by decide), itc (fun _ _ => rII (by decide)), itc (fun _ _ => by rw [rII (by decide), rII (by decide)]), itc (fun _ _ => rII (by decide)), rII (by decide), rII (by decide)]
  exact rIs
theorem diS_2 {m p w k : Nat} {A : Nat → Nat} : (diS σ m A p w k).2 = σ.2 := by
  unfold diS
  show (itF (di2 A p) 4 0 (itF (di1 A p w k) 4 0 (diA σ m A p))).2 = σ.2
  rw [it2 (fun j s => ?_), it2 (fun j s => ?_)]
  · exact diA_f.1
  · unfold di1
    split
    · rfl
    · split <;> rfl
  · unfold di2
    split
    · rfl
    · split
      · rfl
      · exact tl_O
end STP
set_option maxHeartbeats 1000000 in
theorem st_hold (l : Launch) (E : FE) (g : Gh) (n : Nat) (σ : Sg) (o : Nat) (R : RR E g n σ) (hn : n ≤ 511) (hl0 : l.stackTraces = false) (ho : σ.2.2.2 o = 90) (p y b : Int32) : CT l E 12 127 [vR (some g.x), vI p, vI y, vI b, vR (some o)] σ 2 12 (fun r s => ∃ k, r = some (vI k) ∧ MCT l E 110 [vR (some g.m), vI p, vI y, vI b] g.x g.m o g.A (n + 1) k fZL s) (fun _ _ => False) := by
  have C : CT l E 11 59 [vR (some g.x), vI p, vI y, vI b] σ 2 12 (fun r s => ∃ v, r = some (vI v) ∧ ∃ j, j < 4 ∧ p = nI j ∧ ¬ σ.1 20800 (g.D j 0) 0 = 0 ∧ v = (addToF σ (g.D j 2) (g.D j 3) (g.D j 4) (g.D j 5) y b).1 ∧ s = (addToF σ (g.D j 2) (g.D j 3) (g.D j 4) (g.D j 5) y b).2) (oX σ g.D p) := CT.mn (c_od_hold l E 11 σ g.D g.x g.a0 p y b (by decide) hl0 R.s.x1 R.s.x2 R.s.x3 R.s.sh R.s.wf) (by
    rintro r s ⟨j, hj, hp, hal, e1, e2⟩; exact ⟨_, e1, j, hj, hp, hal, rfl, e2⟩)
  refine mono_la_20 (c_lw_hold l E 12 σ g.x p y b o 2 12 (fun v s => ∃ j, j < 4 ∧ p = nI j ∧ ¬ σ.1 20800 (g.D j 0) 0 = 0 ∧ v = (addToF σ (g.D j 2) (g.D j 3) (g.D j 4) (g.D j 5) y b).1 ∧ s = (addToF σ (g.D j 2) (g.D j 3) (g.D j 4) (g.D j 5) y b).2) (oX σ g.D p) (by decide) R.s.x1 C oX_two (by rintro v s ⟨j, hj, -, -, hQ⟩; exact by rw [hQ.2, addTo_kd]; exact ho)) ?_
  rintro r s (⟨v, s0, ⟨j, hj, rfl, hal, hQ⟩, rfl, rfl⟩ | ⟨h, rfl⟩ | ⟨h, rfl⟩)
  · refine ⟨0, rfl, ?_⟩
    have ha : al g σ j := R.alv hj hal
    obtain ⟨v9, s9, σ2, e1, e2, R2, t0⟩ := sim_hold R (by omega) hj ha y b
    obtain ⟨rfl, rfl⟩ := hQ
    have e3 : (addToF σ (g.D j 2) (g.D j 3) (g.D j 4) (g.D j 5) y b).1 = v9 := by rw [e1]
    have e4 : (addToF σ (g.D j 2) (g.D j 3) (g.D j 4) (g.D j 5) y b).2 = s9 := by rw [e1]
    rw [e3, e4]
    have ho9 : s9.2.2.2 o = 90 := by rw [← e4, addTo_kd]; exact ho
    exact nrm (f := fZL) (F := fun τ => mhlF τ g.m g.A (nI j) y b) (fun _ _ => mhl_X) e2 R2 rfl rfl rfl t0 ho9 (fun hM => c_mo_hold l E 8 _ g.m g.A (nI j) y b (by decide) hM)
  · obtain ⟨rfl, e⟩ := oX_1 h
    exact ⟨1, rfl, absM R ho e (by decide) (ct_abs (c_mo_hold l E 8 _ g.m g.A p y b (by decide) R.s.mo) (by unfold mhlF; rw [if_neg (ab_no (m := g.m) e (by decide))]; rfl))⟩
  · obtain ⟨rfl, e⟩ := oX_2 R h
    exact ⟨2, rfl, absM R ho e (by decide) (ct_abs (c_mo_hold l E 8 _ g.m g.A p y b (by decide) R.s.mo) (by unfold mhlF; rw [if_neg (ab_no (m := g.m) e (by decide))]; rfl))⟩
set_option maxHeartbeats 1000000 in
theorem st_drop (l : Launch) (E : FE) (g : Gh) (n : Nat) (σ : Sg) (o : Nat) (R : RR E g n σ) (hn : n ≤ 511) (hl0 : l.stackTraces = false) (ho : σ.2.2.2 o = 90) (p y b : Int32) : CT l E 12 128 [vR (some g.x), vI p, vI y, vI b, vR (some o)] σ 2 12 (fun r s => ∃ k, r = some (vI k) ∧ MCT l E 111 [vR (some g.m), vI p, vI y, vI b] g.x g.m o g.A (n + 1) k fZL s) (fun _ _ => False) := by
  have C : CT l E 11 60 [vR (some g.x), vI p, vI y, vI b] σ 2 12 (fun r s => ∃ v, r = some (vI v) ∧ ∃ j, j < 4 ∧ p = nI j ∧ ¬ σ.1 20800 (g.D j 0) 0 = 0 ∧ v = (takeFromF σ (g.D j 2) (g.D j 3) (g.D j 4) (g.D j 5) y b).1 ∧ s = (takeFromF σ (g.D j 2) (g.D j 3) (g.D j 4) (g.D j 5) y b).2) (oX σ g.D p) := CT.mn (c_od_drop l E 11 σ g.D g.x g.a0 p y b (by decide) hl0 R.s.x1 R.s.x2 R.s.x3 R.s.sh R.s.wf) (by
    rintro r s ⟨j, hj, hp, hal, e1, e2⟩; exact ⟨_, e1, j, hj, hp, hal, rfl, e2⟩)
  refine mono_la_20 (c_lw_drop l E 12 σ g.x p y b o 2 12 (fun v s => ∃ j, j < 4 ∧ p = nI j ∧ ¬ σ.1 20800 (g.D j 0) 0 = 0 ∧ v = (takeFromF σ (g.D j 2) (g.D j 3) (g.D j 4) (g.D j 5) y b).1 ∧ s = (takeFromF σ (g.D j 2) (g.D j 3) (g.D j 4) (g.D j 5) y b).2) (oX σ g.D p) (by decide) R.s.x1 C oX_two (by rintro v s ⟨j, hj, -, -, hQ⟩; exact by rw [hQ.2, takeFrom_kd]; exact ho)) ?_
  rintro r s (⟨v, s0, ⟨j, hj, rfl, hal, hQ⟩, rfl, rfl⟩ | ⟨h, rfl⟩ | ⟨h, rfl⟩)
  · refine ⟨0, rfl, ?_⟩
    have ha : al g σ j := R.alv hj hal
    obtain ⟨v9, s9, σ2, e1, e2, R2, t0⟩ := sim_drop R (by omega) hj ha y b
    obtain ⟨rfl, rfl⟩ := hQ
    have e3 : (takeFromF σ (g.D j 2) (g.D j 3) (g.D j 4) (g.D j 5) y b).1 = v9 := by rw [e1]
    have e4 : (takeFromF σ (g.D j 2) (g.D j 3) (g.D j 4) (g.D j 5) y b).2 = s9 := by rw [e1]
    rw [e3, e4]
    have ho9 : s9.2.2.2 o = 90 := by rw [← e4, takeFrom_kd]; exact ho
    exact nrm (f := fZL) (F := fun τ => mdpF τ g.m g.A (nI j) y b) (fun _ _ => mdp_X) e2 R2 rfl rfl rfl t0 ho9 (fun hM => c_mo_drop l E 8 _ g.m g.A (nI j) y b (by decide) hM)
  · obtain ⟨rfl, e⟩ := oX_1 h
    exact ⟨1, rfl, absM R ho e (by decide) (ct_abs (c_mo_drop l E 8 _ g.m g.A p y b (by decide) R.s.mo) (by unfold mdpF; rw [if_neg (ab_no (m := g.m) e (by decide))]; rfl))⟩
  · obtain ⟨rfl, e⟩ := oX_2 R h
    exact ⟨2, rfl, absM R ho e (by decide) (ct_abs (c_mo_drop l E 8 _ g.m g.A p y b (by decide) R.s.mo) (by unfold mdpF; rw [if_neg (ab_no (m := g.m) e (by decide))]; rfl))⟩
set_option maxHeartbeats 1000000 in
theorem st_draft (l : Launch) (E : FE) (g : Gh) (n : Nat) (σ : Sg) (o : Nat) (R : RR E g n σ) (hn : n ≤ 511) (hl0 : l.stackTraces = false) (ho : σ.2.2.2 o = 90) (p y : Int32) : CT l E 12 120 [vR (some g.x), vI p, vI y, vR (some o)] σ 2 12 (fun r s => ∃ k, r = some (vI k) ∧ MCT l E 86 [vR (some g.m), vI p, vI y] g.x g.m o g.A (n + 1) k fZL s) (fun _ _ => False) := by
  have C : CT l E 11 52 [vR (some g.x), vI p, vI y] σ 2 12 (fun r s => ∃ v, r = some (vI v) ∧ ∃ j, j < 4 ∧ p = nI j ∧ ¬ σ.1 20800 (g.D j 0) 0 = 0 ∧ v = (odrF σ (g.D j 8) y).1 ∧ s = (odrF σ (g.D j 8) y).2) (oX σ g.D p) := CT.mn (c_od_draft l E 11 σ g.D g.x g.a0 p y (by decide) hl0 R.s.x1 R.s.x2 R.s.x3 R.s.sh R.s.wf) (by
    rintro r s ⟨j, hj, hp, hal, e1, e2⟩; exact ⟨_, e1, j, hj, hp, hal, rfl, e2⟩)
  refine mono_la_20 (c_lw_draft l E 12 σ g.x p y o 2 12 (fun v s => ∃ j, j < 4 ∧ p = nI j ∧ ¬ σ.1 20800 (g.D j 0) 0 = 0 ∧ v = (odrF σ (g.D j 8) y).1 ∧ s = (odrF σ (g.D j 8) y).2) (oX σ g.D p) (by decide) R.s.x1 C oX_two (by rintro v s ⟨j, hj, -, -, hQ⟩; exact by rw [hQ.2, odr_kd]; exact ho)) ?_
  rintro r s (⟨v, s0, ⟨j, hj, rfl, hal, hQ⟩, rfl, rfl⟩ | ⟨h, rfl⟩ | ⟨h, rfl⟩)
  · refine ⟨0, rfl, ?_⟩
    have ha : al g σ j := R.alv hj hal
    obtain ⟨v9, s9, σ2, e1, e2, R2, t0⟩ := sim_draft R hj ha y
    obtain ⟨rfl, rfl⟩ := hQ
    have e3 : (odrF σ (g.D j 8) y).1 = v9 := by rw [e1]
    have e4 : (odrF σ (g.D j 8) y).2 = s9 := by rw [e1]
    rw [e3, e4]
    have ho9 : s9.2.2.2 o = 90 := by rw [← e4, odr_kd]; exact ho
    exact nrm (f := fZL) (F := fun τ => mdrF τ g.m g.A (nI j) y) (fun _ _ => mdr_X) e2 R2 rfl rfl rfl t0 ho9 (fun hM => c_mo_draft l E 8 _ g.m g.A (nI j) y (by decide) hM)
  · obtain ⟨rfl, e⟩ := oX_1 h
    exact ⟨1, rfl, absM R ho e (by decide) (ct_abs (c_mo_draft l E 8 _ g.m g.A p y (by decide) R.s.mo) (by unfold mdrF; rw [if_neg (ab_no (m := g.m) e (by decide))]; rfl))⟩
  · obtain ⟨rfl, e⟩ := oX_2 R h
    exact ⟨2, rfl, absM R ho e (by decide) (ct_abs (c_mo_draft l E 8 _ g.m g.A p y (by decide) R.s.mo) (by unfold mdrF; rw [if_neg (ab_no (m := g.m) e (by decide))]; rfl))⟩
set_option maxHeartbeats 1000000 in
theorem st_manage (l : Launch) (E : FE) (g : Gh) (n : Nat) (σ : Sg) (o : Nat) (R : RR E g n σ) (hn : n ≤ 511) (hl0 : l.stackTraces = false) (ho : σ.2.2.2 o = 90) (p y : Int32) : CT l E 12 118 [vR (some g.x), vI p, vI y, vR (some o)] σ 2 12 (fun r s => ∃ k, r = some (vI k) ∧ MCT l E 84 [vR (some g.m), vI p, vI y] g.x g.m o g.A (n + 1) k fZL s) (fun _ _ => False) := by
  have C : CT l E 11 50 [vR (some g.x), vI p, vI y] σ 2 12 (fun r s => ∃ v, r = some (vI v) ∧ ∃ j, j < 4 ∧ p = nI j ∧ ¬ σ.1 20800 (g.D j 0) 0 = 0 ∧ v = (omgF σ g.x (g.D j 1) y).1 ∧ s = (omgF σ g.x (g.D j 1) y).2) (oX σ g.D p) := CT.mn (c_od_manage l E 11 σ g.D g.x g.a0 p y (by decide) hl0 R.s.x1 R.s.x2 R.s.x3 R.s.sh R.s.wf) (by
    rintro r s ⟨j, hj, hp, hal, e1, e2⟩; exact ⟨_, e1, j, hj, hp, hal, rfl, e2⟩)
  refine mono_la_20 (c_lw_manage l E 12 σ g.x p y o 2 12 (fun v s => ∃ j, j < 4 ∧ p = nI j ∧ ¬ σ.1 20800 (g.D j 0) 0 = 0 ∧ v = (omgF σ g.x (g.D j 1) y).1 ∧ s = (omgF σ g.x (g.D j 1) y).2) (oX σ g.D p) (by decide) R.s.x1 C oX_two (by rintro v s ⟨j, hj, -, -, hQ⟩; exact by rw [hQ.2, omg_kd]; exact ho)) ?_
  rintro r s (⟨v, s0, ⟨j, hj, rfl, hal, hQ⟩, rfl, rfl⟩ | ⟨h, rfl⟩ | ⟨h, rfl⟩)
  · refine ⟨0, rfl, ?_⟩
    have ha : al g σ j := R.alv hj hal
    obtain ⟨v9, s9, σ2, e1, e2, R2, t0⟩ := sim_manage R (by omega) hj ha y
    obtain ⟨rfl, rfl⟩ := hQ
    have e3 : (omgF σ g.x (g.D j 1) y).1 = v9 := by rw [e1]
    have e4 : (omgF σ g.x (g.D j 1) y).2 = s9 := by rw [e1]
    rw [e3, e4]
    have ho9 : s9.2.2.2 o = 90 := by rw [← e4, omg_kd]; exact ho
    exact nrm (f := fZL) (F := fun τ => mmgF τ g.m g.A (nI j) y) (fun _ _ => mmg_X) e2 R2 rfl rfl rfl t0 ho9 (fun hM => c_mo_manage1 l E 8 _ g.m g.A j y (by decide) hM hj (show ¬ s9.1 510000 (g.A 0) j = 0 by rw [← e4, omg_1, show σ.1 510000 (g.A 0) j = 1 from ha]; decide))
  · obtain ⟨rfl, e⟩ := oX_1 h
    exact ⟨1, rfl, absM R ho e (by decide) (c_mo_manage0 l E 8 _ g.m g.A p y (by decide) R.s.mo (by rw [e]; decide))⟩
  · obtain ⟨rfl, e⟩ := oX_2 R h
    exact ⟨2, rfl, absM R ho e (by decide) (c_mo_manage0 l E 8 _ g.m g.A p y (by decide) R.s.mo (by rw [e]; decide))⟩
set_option maxHeartbeats 1000000 in
theorem st_serve (l : Launch) (E : FE) (g : Gh) (n : Nat) (σ : Sg) (o : Nat) (R : RR E g n σ) (hn : n ≤ 511) (hl0 : l.stackTraces = false) (ho : σ.2.2.2 o = 90) (p y : Int32) : CT l E 12 117 [vR (some g.x), vI p, vI y, vR (some o)] σ 3 18 (fun r s => ∃ k, r = some (vI k) ∧ MCT l E 83 [vR (some g.m), vI p, vI y] g.x g.m o g.A (n + 1) k fZL s) (fun _ _ => False) := by
  have C : CT l E 11 49 [vR (some g.x), vI p, vI y] σ 3 18 (fun r s => ∃ v, r = some (vI v) ∧ ∃ j, j < 4 ∧ p = nI j ∧ ¬ σ.1 20800 (g.D j 0) 0 = 0 ∧ osvP E σ (g.D j 1) j y v s) (oX σ g.D p) := CT.mn (c_od_serve l E 11 σ g.D g.x g.a0 p y (by decide) hl0 R.s.x1 R.s.x2 R.s.x3 R.s.sh R.s.wf) (by
    rintro r s ⟨j, hj, hp, hal, v, e1, h⟩; exact ⟨v, e1, j, hj, hp, hal, h⟩)
  refine mono_la_20 (c_lw_serve l E 12 σ g.x p y o 3 18 (fun v s => ∃ j, j < 4 ∧ p = nI j ∧ ¬ σ.1 20800 (g.D j 0) 0 = 0 ∧ osvP E σ (g.D j 1) j y v s) (oX σ g.D p) (by decide) R.s.x1 C oX_two (by rintro v s ⟨j, hj, -, -, hQ⟩; exact (osv_k hQ o (by rw [ho]; decide)).trans ho)) ?_
  rintro r s (⟨v, s0, ⟨j, hj, rfl, hal, hQ⟩, rfl, rfl⟩ | ⟨h, rfl⟩ | ⟨h, rfl⟩)
  · refine ⟨0, rfl, ?_⟩
    have ha : al g σ j := R.alv hj hal
    obtain ⟨σ2, g', e2, R2, t0, q1, q2, q3⟩ := sim_serve R (by omega) hj ha y hQ
    have ho9 : s0.2.2.2 o = 90 := (osv_k hQ o (by rw [ho]; decide)).trans ho
    exact nrm (f := fZL) (F := fun τ => msvF τ g.m g.A (nI j) y) (fun _ _ => msv_X) e2 R2 q1 q2 q3 t0 ho9 (fun hM => c_mo_serve l E 8 _ g.m g.A (nI j) y (by decide) hM)
  · obtain ⟨rfl, e⟩ := oX_1 h
    exact ⟨1, rfl, absM R ho e (by decide) (ct_abs (c_mo_serve l E 8 _ g.m g.A p y (by decide) R.s.mo) (by unfold msvF; rw [if_neg (ab_no (m := g.m) e (by decide))]; rfl))⟩
  · obtain ⟨rfl, e⟩ := oX_2 R h
    exact ⟨2, rfl, absM R ho e (by decide) (ct_abs (c_mo_serve l E 8 _ g.m g.A p y (by decide) R.s.mo) (by unfold msvF; rw [if_neg (ab_no (m := g.m) e (by decide))]; rfl))⟩
set_option maxHeartbeats 1000000 in
theorem st_item (l : Launch) (E : FE) (g : Gh) (n : Nat) (σ : Sg) (o : Nat) (R : RR E g n σ) (hn : n ≤ 511) (hl0 : l.stackTraces = false) (ho : σ.2.2.2 o = 90) (p y z : Int32) : CT l E 12 119 [vR (some g.x), vI p, vI y, vI z, vR (some o)] σ 2 12 (fun r s => ∃ k, r = some (vI k) ∧ MCT l E 85 [vR (some g.m), vI p, vI y, vI z] g.x g.m o g.A (n + 1) k fZL s) (fun _ _ => False) := by
  have h57 : ∀ j, j < 4 → σ.1 570000 (g.A 6) j = nI ((fun j => (σ.1 570000 (g.A 6) j).toNatClampNeg) j) ∧ (fun j => (σ.1 570000 (g.A 6) j).toNatClampNeg) j ≤ 4 := fun j hj => by
    obtain ⟨k, z, d1, d2, d3, -⟩ := R.d j hj
    show σ.1 570000 (g.A 6) j = nI (σ.1 570000 (g.A 6) j).toNatClampNeg ∧ (σ.1 570000 (g.A 6) j).toNatClampNeg ≤ 4
    rw [d3, nI_clamp (by omega)]; exact ⟨rfl, d1⟩
  have C : CT l E 11 51 [vR (some g.x), vI p, vI y, vI z] σ 2 12 (fun r s => ∃ v, r = some (vI v) ∧ ∃ j, j < 4 ∧ p = nI j ∧ ¬ σ.1 20800 (g.D j 0) 0 = 0 ∧ v = (appF σ (g.D j 8) (g.D j 9) (g.D j 10) y z).1 ∧ s = (appF σ (g.D j 8) (g.D j 9) (g.D j 10) y z).2) (oX σ g.D p) := CT.mn (c_od_item l E 11 σ g.D g.x g.a0 p y z (by decide) hl0 R.s.x1 R.s.x2 R.s.x3 R.s.sh R.s.wf (fun j hj => by rw [(R.hits j hj).1]; exact lt0_nI (by have := (R.hits j hj).2; omega))) (by
    rintro r s ⟨j, hj, hp, hal, e1, e2⟩; exact ⟨_, e1, j, hj, hp, hal, rfl, e2⟩)
  refine mono_la_20 (c_lw_item l E 12 σ g.x p y z o 2 12 (fun v s => ∃ j, j < 4 ∧ p = nI j ∧ ¬ σ.1 20800 (g.D j 0) 0 = 0 ∧ v = (appF σ (g.D j 8) (g.D j 9) (g.D j 10) y z).1 ∧ s = (appF σ (g.D j 8) (g.D j 9) (g.D j 10) y z).2) (oX σ g.D p) (by decide) R.s.x1 C oX_two (by rintro v s ⟨j, hj, -, -, hQ⟩; exact by rw [hQ.2, app_kd]; exact ho)) ?_
  rintro r s (⟨v, s0, ⟨j, hj, rfl, hal, hQ⟩, rfl, rfl⟩ | ⟨h, rfl⟩ | ⟨h, rfl⟩)
  · refine ⟨0, rfl, ?_⟩
    have ha : al g σ j := R.alv hj hal
    obtain ⟨v9, s9, σ2, e1, e2, R2, t0⟩ := sim_item R hj ha y z (fun j => (σ.1 570000 (g.A 6) j).toNatClampNeg) h57
    obtain ⟨rfl, rfl⟩ := hQ
    have e3 : (appF σ (g.D j 8) (g.D j 9) (g.D j 10) y z).1 = v9 := by rw [e1]
    have e4 : (appF σ (g.D j 8) (g.D j 9) (g.D j 10) y z).2 = s9 := by rw [e1]
    rw [e3, e4]
    have ho9 : s9.2.2.2 o = 90 := by rw [← e4, app_kd]; exact ho
    exact nrm (f := fZL) (F := fun τ => mitF τ g.m g.A (fun j => (σ.1 570000 (g.A 6) j).toNatClampNeg) (nI j) y z) (fun _ _ => mit_X) e2 R2 rfl rfl rfl t0 ho9 (fun hM => c_mo_item l E 8 _ g.m g.A (nI j) y z (fun j => (σ.1 570000 (g.A 6) j).toNatClampNeg) (by decide) hM (fun i hi => by show s9.1 570000 (g.A 6) i = nI ((fun j => (σ.1 570000 (g.A 6) j).toNatClampNeg) i) ∧ (fun j => (σ.1 570000 (g.A 6) j).toNatClampNeg) i ≤ 4; rw [← e4, app_1 (by decide)]; exact h57 i hi))
  · obtain ⟨rfl, e⟩ := oX_1 h
    exact ⟨1, rfl, absM R ho e (by decide) (ct_abs (c_mo_item l E 8 _ g.m g.A p y z (fun j => (s.1 570000 (g.A 6) j).toNatClampNeg) (by decide) R.s.mo h57) (by unfold mitF; rw [if_neg (ab_no (m := g.m) e (by decide))]; rfl))⟩
  · obtain ⟨rfl, e⟩ := oX_2 R h
    exact ⟨2, rfl, absM R ho e (by decide) (ct_abs (c_mo_item l E 8 _ g.m g.A p y z (fun j => (s.1 570000 (g.A 6) j).toNatClampNeg) (by decide) R.s.mo h57) (by unfold mitF; rw [if_neg (ab_no (m := g.m) e (by decide))]; rfl))⟩
set_option maxHeartbeats 1000000 in
theorem st_count (l : Launch) (E : FE) (g : Gh) (n : Nat) (σ : Sg) (o : Nat) (R : RR E g n σ) (hn : n ≤ 511) (hl0 : l.stackTraces = false) (ho : σ.2.2.2 o = 90) (p y : Int32) : CT l E 12 130 [vR (some g.x), vI p, vI y, vR (some o)] σ 2 12 (fun r s => ∃ k, r = some (vI k) ∧ MCT l E 113 [vR (some g.m), vI p, vI y] g.x g.m o g.A (n + 1) k fIL s) (fun _ _ => False) := by
  obtain ⟨AR1, l1⟩ := R.s.l1
  obtain ⟨AR2, l2⟩ := R.s.l2
  obtain ⟨AR3, l3⟩ := R.s.l3
  have C : CT l E 11 62 [vR (some g.x), vI p, vI y] σ 2 12 (fun r s => ∃ v, r = some (vI v) ∧ ∃ j, j < 4 ∧ p = nI j ∧ ¬ σ.1 20800 (g.D j 0) 0 = 0 ∧ v = ocnF σ (g.D j) (g.L1 j).length (g.L2 j).length (g.L3 j).length y ∧ s = σ) (oX σ g.D p) := CT.mn (c_od_count l E 11 σ g.D g.x g.a0 p y g.L1 g.L2 g.L3 AR1 AR2 AR3 (by decide) hl0 R.s.x1 R.s.x2 R.s.x3 R.s.sh R.s.wf l1 l2 l3) (by
    rintro r s ⟨j, hj, hp, hal, e1, e2⟩; exact ⟨_, e1, j, hj, hp, hal, rfl, e2⟩)
  refine mono_la_20 (c_lw_count l E 12 σ g.x p y o 2 12 (fun v s => ∃ j, j < 4 ∧ p = nI j ∧ ¬ σ.1 20800 (g.D j 0) 0 = 0 ∧ v = ocnF σ (g.D j) (g.L1 j).length (g.L2 j).length (g.L3 j).length y ∧ s = σ) (oX σ g.D p) (by decide) R.s.x1 C oX_two (by rintro v s ⟨j, hj, -, -, hQ⟩; exact by rw [hQ.2]; exact ho)) ?_
  rintro r s (⟨v, s0, ⟨j, hj, rfl, hal, hQ⟩, rfl, rfl⟩ | ⟨h, rfl⟩ | ⟨h, rfl⟩)
  · refine ⟨0, rfl, ?_⟩
    have ha : al g σ j := R.alv hj hal
    obtain ⟨rfl, rfl⟩ := hQ
    exact nrm (f := fIL) (F := fun τ => (mcnF τ g.A j y, sI τ 500000 g.m 0 0)) (fun _ _ => rfl) (by rw [sim_count R hj ha y]) ((R.th 0).mono (Nat.le_succ n)) rfl rfl rfl rIs ho (fun hM => c_mo_count1 l E 8 _ g.m g.A j y (by decide) hM hj (show ¬ s0.1 510000 (g.A 0) j = 0 by rw [show s0.1 510000 (g.A 0) j = 1 from ha]; decide))
  · obtain ⟨rfl, e⟩ := oX_1 h
    exact ⟨1, rfl, absM R ho e (by decide) (c_mo_count0 l E 8 _ g.m g.A p y (by decide) R.s.mo (by rw [e]; decide))⟩
  · obtain ⟨rfl, e⟩ := oX_2 R h
    exact ⟨2, rfl, absM R ho e (by decide) (c_mo_count0 l E 8 _ g.m g.A p y (by decide) R.s.mo (by rw [e]; decide))⟩
set_option maxHeartbeats 1000000 in
theorem st_handle (l : Launch) (E : FE) (g : Gh) (n : Nat) (σ : Sg) (o : Nat) (R : RR E g n σ) (hn : n ≤ 511) (hl0 : l.stackTraces = false) (ho : σ.2.2.2 o = 90) (p y z : Int32) : CT l E 12 131 [vR (some g.x), vI p, vI y, vI z, vR (some o)] σ 2 12 (fun r s => ∃ k, r = some (vI k) ∧ MCT l E 114 [vR (some g.m), vI p, vI y, vI z] g.x g.m o g.A (n + 1) k fIL s) (fun _ _ => False) := by
  have C : CT l E 11 63 [vR (some g.x), vI p, vI y, vI z] σ 2 12 (fun r s => ∃ v, r = some (vI v) ∧ ∃ j, j < 4 ∧ p = nI j ∧ ¬ σ.1 20800 (g.D j 0) 0 = 0 ∧ v = ohnF σ (g.D j) y z ∧ s = σ) (oX σ g.D p) := CT.mn (c_od_handle l E 11 σ g.D g.x g.a0 p y z (by decide) hl0 R.s.x1 R.s.x2 R.s.x3 R.s.sh R.s.wf) (by
    rintro r s ⟨j, hj, hp, hal, e1, e2⟩; exact ⟨_, e1, j, hj, hp, hal, rfl, e2⟩)
  refine mono_la_20 (c_lw_handle l E 12 σ g.x p y z o 2 12 (fun v s => ∃ j, j < 4 ∧ p = nI j ∧ ¬ σ.1 20800 (g.D j 0) 0 = 0 ∧ v = ohnF σ (g.D j) y z ∧ s = σ) (oX σ g.D p) (by decide) R.s.x1 C oX_two (by rintro v s ⟨j, hj, -, -, hQ⟩; exact by rw [hQ.2]; exact ho)) ?_
  rintro r s (⟨v, s0, ⟨j, hj, rfl, hal, hQ⟩, rfl, rfl⟩ | ⟨h, rfl⟩ | ⟨h, rfl⟩)
  · refine ⟨0, rfl, ?_⟩
    have ha : al g σ j := R.alv hj hal
    obtain ⟨rfl, rfl⟩ := hQ
    exact nrm (f := fIL) (F := fun τ => (mhnF τ g.A j y z, sI τ 500000 g.m 0 0)) (fun _ _ => rfl) (by rw [sim_handle R (by omega) hj ha y z]) ((R.th 0).mono (Nat.le_succ n)) rfl rfl rfl rIs ho (fun hM => c_mo_handle1 l E 8 _ g.m g.A j y z (by decide) hM hj (show ¬ s0.1 510000 (g.A 0) j = 0 by rw [show s0.1 510000 (g.A 0) j = 1 from ha]; decide) (fun y9 => R.n9 (by omega) hj ha y9))
  · obtain ⟨rfl, e⟩ := oX_1 h
    exact ⟨1, rfl, absM R ho e (by decide) (c_mo_handle0 l E 8 _ g.m g.A p y z (by decide) R.s.mo (by rw [e]; decide))⟩
  · obtain ⟨rfl, e⟩ := oX_2 R h
    exact ⟨2, rfl, absM R ho e (by decide) (c_mo_handle0 l E 8 _ g.m g.A p y z (by decide) R.s.mo (by rw [e]; decide))⟩
set_option maxHeartbeats 1000000 in
theorem st_latest (l : Launch) (E : FE) (g : Gh) (n : Nat) (σ : Sg) (o : Nat) (R : RR E g n σ) (hn : n ≤ 511) (hl0 : l.stackTraces = false) (ho : σ.2.2.2 o = 90) (p y : Int32) : CT l E 12 123 [vR (some g.x), vI p, vI y, vR (some o)] σ 3 18 (fun r s => ∃ k, r = some (vI k) ∧ MCT l E 105 [vR (some g.m), vI p, vI y] g.x g.m o g.A (n + 1) k fIL s) (fun _ _ => False) := by
  have C : CT l E 11 55 [vR (some g.x), vI p, vI y] σ 3 18 (fun r s => ∃ v, r = some (vI v) ∧ ∃ j, j < 4 ∧ p = nI j ∧ ¬ σ.1 20800 (g.D j 0) 0 = 0 ∧ oltF σ (g.D j 0) y = some v ∧ s = σ) (nX σ g.D p (fun j => oltF σ (g.D j 0) y = none)) := CT.mn (c_od_latest l E 11 σ g.D g.x g.a0 p y (by decide) hl0 R.s.x1 R.s.x2 R.s.x3 R.s.sh R.s.wf) (by
    rintro r s ⟨j, hj, hp, hal, v, e1, h⟩; exact ⟨v, e1, j, hj, hp, hal, h⟩)
  refine mono_la_20 (c_lw_latest l E 12 σ g.x p y o 3 18 (fun v s => ∃ j, j < 4 ∧ p = nI j ∧ ¬ σ.1 20800 (g.D j 0) 0 = 0 ∧ oltF σ (g.D j 0) y = some v ∧ s = σ) (nX σ g.D p (fun j => oltF σ (g.D j 0) y = none)) (by decide) R.s.x1 C nX_three (by rintro v s ⟨j, hj, -, -, hQ⟩; exact by rw [hQ.2]; exact ho)) ?_
  rintro r s (⟨v, s0, ⟨j, hj, rfl, hal, hQ⟩, rfl, rfl⟩ | ⟨h, rfl⟩ | ⟨h, rfl⟩ | ⟨h, rfl⟩)
  · refine ⟨0, rfl, ?_⟩
    have ha : al g σ j := R.alv hj hal
    obtain ⟨hv, rfl⟩ := hQ
    rw [sim_latest R hj ha y] at hv
    refine ⟨R.s.mo.1, mono_la_20 (c_mo_latest1 l E 8 _ g.m g.A j y (by decide) (show MO (sJ s0 o 0 v.toInt64) g.m g.A from R.s.mo) hj (show ¬ s0.1 510000 (g.A 0) j = 0 by rw [show _ = (1 : Int32) from ha]; decide)) ?_⟩
    rintro r s2 (⟨e, -⟩ | ⟨v9, e, rfl, rfl⟩)
    · have e9 : mltF (sJ s0 o 0 v.toInt64) g.A j y = some v := hv
      rw [e9] at e; cases e
    · have e9 : mltF (sJ s0 o 0 v.toInt64) g.A j y = some v := hv
      rw [e9] at e; cases e
      refine ⟨v, rfl, ⟨g, ((R.th 0).mono (Nat.le_succ n)).sx rfl rfl rfl, rfl, rfl, rfl, rIs, ho⟩, fun _ => ?_⟩
      show (if o = o ∧ 0 = 0 then v.toInt64 else s0.2.2.1 o 0) = fIL v
      rw [if_pos ⟨rfl, rfl⟩]; rfl
  · obtain ⟨rfl, e⟩ := nX_1 h
    exact ⟨1, rfl, absM R ho e (by decide) (c_mo_latest0 l E 8 _ g.m g.A p y (by decide) R.s.mo (by rw [e]; decide))⟩
  · obtain ⟨rfl, e⟩ := nX_2 R h
    exact ⟨2, rfl, absM R ho e (by decide) (c_mo_latest0 l E 8 _ g.m g.A p y (by decide) R.s.mo (by rw [e]; decide))⟩
  · obtain ⟨rfl, j, hj, rfl, hal, hno⟩ := nX_3 h
    have ha : al g s j := R.alv hj hal
    refine ⟨3, rfl, R.s.mo.1, mono_la_20 (c_mo_latest1 l E 8 _ g.m g.A j y (by decide) R.s.mo hj (show ¬ s.1 510000 (g.A 0) j = 0 by rw [show _ = (1 : Int32) from ha]; decide)) ?_⟩
    rw [sim_latest R hj ha y] at hno
    rintro r s2 (⟨-, rfl, rfl⟩ | ⟨v, e, -⟩)
    · exact ⟨0, rfl, ⟨g, ((R.th 0).th 3).mono (Nat.le_succ n), rfl, rfl, rfl, rIs, ho⟩, fun h => absurd h (by decide)⟩
    · rw [hno] at e; cases e
set_option maxHeartbeats 1000000 in
theorem st_read (l : Launch) (E : FE) (g : Gh) (n : Nat) (σ : Sg) (o : Nat) (R : RR E g n σ) (hn : n ≤ 511) (hl0 : l.stackTraces = false) (ho : σ.2.2.2 o = 90) (p y z w : Int32) : CT l E 12 126 [vR (some g.x), vI p, vI y, vI z, vI w, vR (some o)] σ 3 18 (fun r s => ∃ k, r = some (vI k) ∧ MCT l E 109 [vR (some g.m), vI p, vI y, vI z, vI w] g.x g.m o g.A (n + 1) k fIL s) (fun _ _ => False) := by
  have C : CT l E 11 58 [vR (some g.x), vI p, vI y, vI z, vI w] σ 3 18 (fun r s => ∃ v, r = some (vI v) ∧ ∃ j, j < 4 ∧ p = nI j ∧ ¬ σ.1 20800 (g.D j 0) 0 = 0 ∧ ordF σ (g.D j 7) y z w = some v ∧ s = σ) (nX σ g.D p (fun j => ordF σ (g.D j 7) y z w = none)) := CT.mn (c_od_read l E 11 σ g.D g.x g.a0 p y z w (by decide) hl0 R.s.x1 R.s.x2 R.s.x3 R.s.sh R.s.wf (fun j hj c m hc hm => by obtain ⟨k, s, l, it, t, T, a1, a2, a3, x1, x2, x3, x4, x5, x6, x7, x8, x9, x10, x11, x12, x13, x14, x15, x16, x17, x18, x19, x20, x21, -⟩ := R.msg j hj c m hc hm; exact ⟨it, a1, a2, x10, x11, x17, x18, x20, x21⟩)) (by
    rintro r s ⟨j, hj, hp, hal, v, e1, h⟩; exact ⟨v, e1, j, hj, hp, hal, h⟩)
  refine mono_la_20 (c_lw_read l E 12 σ g.x p y z w o 3 18 (fun v s => ∃ j, j < 4 ∧ p = nI j ∧ ¬ σ.1 20800 (g.D j 0) 0 = 0 ∧ ordF σ (g.D j 7) y z w = some v ∧ s = σ) (nX σ g.D p (fun j => ordF σ (g.D j 7) y z w = none)) (by decide) R.s.x1 C nX_three (by rintro v s ⟨j, hj, -, -, hQ⟩; exact by rw [hQ.2]; exact ho)) ?_
  rintro r s (⟨v, s0, ⟨j, hj, rfl, hal, hQ⟩, rfl, rfl⟩ | ⟨h, rfl⟩ | ⟨h, rfl⟩ | ⟨h, rfl⟩)
  · refine ⟨0, rfl, ?_⟩
    have ha : al g σ j := R.alv hj hal
    obtain ⟨hv, rfl⟩ := hQ
    rw [sim_read R hj ha y z w] at hv
    refine ⟨R.s.mo.1, mono_la_20 (c_mo_read1 l E 8 _ g.m g.A j y z w (by decide) (show MO (sJ s0 o 0 v.toInt64) g.m g.A from R.s.mo) hj (show ¬ s0.1 510000 (g.A 0) j = 0 by rw [show _ = (1 : Int32) from ha]; decide) (R.it9 hj ha y)) ?_⟩
    rintro r s2 (⟨e, -⟩ | ⟨v9, e, rfl, rfl⟩)
    · have e9 : mrdF (sJ s0 o 0 v.toInt64) g.A j y z w = some v := hv
      rw [e9] at e; cases e
    · have e9 : mrdF (sJ s0 o 0 v.toInt64) g.A j y z w = some v := hv
      rw [e9] at e; cases e
      refine ⟨v, rfl, ⟨g, ((R.th 0).mono (Nat.le_succ n)).sx rfl rfl rfl, rfl, rfl, rfl, rIs, ho⟩, fun _ => ?_⟩
      show (if o = o ∧ 0 = 0 then v.toInt64 else s0.2.2.1 o 0) = fIL v
      rw [if_pos ⟨rfl, rfl⟩]; rfl
  · obtain ⟨rfl, e⟩ := nX_1 h
    exact ⟨1, rfl, absM R ho e (by decide) (c_mo_read0 l E 8 _ g.m g.A p y z w (by decide) R.s.mo (by rw [e]; decide))⟩
  · obtain ⟨rfl, e⟩ := nX_2 R h
    exact ⟨2, rfl, absM R ho e (by decide) (c_mo_read0 l E 8 _ g.m g.A p y z w (by decide) R.s.mo (by rw [e]; decide))⟩
  · obtain ⟨rfl, j, hj, rfl, hal, hno⟩ := nX_3 h
    have ha : al g s j := R.alv hj hal
    refine ⟨3, rfl, R.s.mo.1, mono_la_20 (c_mo_read1 l E 8 _ g.m g.A j y z w (by decide) R.s.mo hj (show ¬ s.1 510000 (g.A 0) j = 0 by rw [show _ = (1 : Int32) from ha]; decide) (R.it9 hj ha y)) ?_⟩
    rw [sim_read R hj ha y z w] at hno
    rintro r s2 (⟨-, rfl, rfl⟩ | ⟨v, e, -⟩)
    · exact ⟨0, rfl, ⟨g, ((R.th 0).th 3).mono (Nat.le_succ n), rfl, rfl, rfl, rIs, ho⟩, fun h => absurd h (by decide)⟩
    · rw [hno] at e; cases e
set_option maxHeartbeats 1000000 in
theorem st_watch (l : Launch) (E : FE) (g : Gh) (n : Nat) (σ : Sg) (o : Nat) (R : RR E g n σ) (hn : n ≤ 511) (hl0 : l.stackTraces = false) (ho : σ.2.2.2 o = 90) (p y c : Int32) : CT l E 12 129 [vR (some g.x), vI p, vI y, vI c, vR (some o)] σ 4 470 (fun r s => ∃ k, r = some (vI k) ∧ MCT l E 112 [vR (some g.m), vI p, vI y, vI c] g.x g.m o g.A (n + 1) k fZL s) (fun _ _ => False) := by
  obtain ⟨AR1, l1⟩ := R.s.l1
  obtain ⟨AR2, l2⟩ := R.s.l2
  obtain ⟨AR3, l3⟩ := R.s.l3
  have C : CT l E 11 61 [vR (some g.x), vI p, vI y, vI c] σ 4 470 (fun r s => ∃ v, r = some (vI v) ∧ ∃ j, j < 4 ∧ p = nI j ∧ ¬ σ.1 20800 (g.D j 0) 0 = 0 ∧ owtP E g.D j g.L1 g.L3 σ y c v s) (oX σ g.D p) := CT.mn (c_od_watch l E 11 σ g.D g.x g.a0 p y c g.L1 g.L2 g.L3 AR1 AR2 AR3 (by decide) hl0 R.s.x1 R.s.x2 R.s.x3 R.s.sh R.s.wf l1 l2 l3 (fun j hj => by have := R.ls.1 j hj; omega) (fun j hj => by have := R.ls.2.2 j hj; omega)) (by
    rintro r s ⟨j, hj, hp, hal, v, e1, h⟩; exact ⟨v, e1, j, hj, hp, hal, h⟩)
  refine mono_la_20 (c_lw_watch l E 12 σ g.x p y c o 4 470 (fun v s => ∃ j, j < 4 ∧ p = nI j ∧ ¬ σ.1 20800 (g.D j 0) 0 = 0 ∧ owtP E g.D j g.L1 g.L3 σ y c v s) (oX σ g.D p) (by decide) R.s.x1 C oX_two (by rintro v s ⟨j, hj, -, -, hQ⟩; exact (owt_k hQ o (by rw [ho]; decide)).trans ho)) ?_
  rintro r s (⟨v, s0, ⟨j, hj, rfl, hal, hQ⟩, rfl, rfl⟩ | ⟨h, rfl⟩ | ⟨h, rfl⟩)
  · refine ⟨0, rfl, ?_⟩
    have ha : al g σ j := R.alv hj hal
    obtain ⟨σ2, g', e2, R2, t0, q1, q2, q3⟩ := sim_watch R (by omega) hj ha y c hQ
    have ho9 : s0.2.2.2 o = 90 := (owt_k hQ o (by rw [ho]; decide)).trans ho
    have q9 := owt_m hQ
    exact nrm (f := fZL) (F := fun τ => mwtF τ g.m g.A j (g.L1 j).length (g.L3 j).length y c) (fun _ _ => mwt_X) e2 R2 q1 q2 q3 t0 ho9 (fun hM => c_mo_watch1 l E 8 _ g.m g.A j (g.L1 j).length (g.L3 j).length y c (by decide) hM hj (show ¬ s0.1 510000 (g.A 0) j = 0 by rw [q9.a R.s (c := 510000) (j := 0) (i := j) (by decide) (by decide), show σ.1 510000 (g.A 0) j = 1 from ha]; decide) (show s0.1 720000 (g.A 21) j = _ by rw [q9.a R.s (c := 720000) (j := 21) (i := j) (by decide) (by decide)]; exact (R.i j hj).2.2.1) (by have := R.len hj ha; omega) (show s0.1 780000 (g.A 27) j = _ by rw [q9.a R.s (c := 780000) (j := 27) (i := j) (by decide) (by decide)]; exact ((R.v j hj).1 ha).2.1) (R.ls.2.2 j hj) (fun y9 => by show 1 ≤ y9.toNatClampNeg → y9.toNatClampNeg < 16 → ¬ hhF (s0.1 550000 (g.A 4)) (s0.1 560000 (g.A 5)) j y9 = 0 → ¬ s0.1 540000 (g.A 3) (16 * j + y9.toNatClampNeg) < 0; rw [show s0.1 550000 (g.A 4) = σ.1 550000 (g.A 4) from funext fun i => q9.a R.s (by decide) (by decide), show s0.1 560000 (g.A 5) = σ.1 560000 (g.A 5) from funext fun i => q9.a R.s (by decide) (by decide), show s0.1 540000 (g.A 3) = σ.1 540000 (g.A 3) from funext fun i => q9.a R.s (by decide) (by decide)]; exact R.n9 (by omega) hj ha y9))
  · obtain ⟨rfl, e⟩ := oX_1 h
    exact ⟨1, rfl, absM R ho e (by decide) (c_mo_watch0 l E 8 _ g.m g.A p y c (by decide) R.s.mo (by rw [e]; decide))⟩
  · obtain ⟨rfl, e⟩ := oX_2 R h
    exact ⟨2, rfl, absM R ho e (by decide) (c_mo_watch0 l E 8 _ g.m g.A p y c (by decide) R.s.mo (by rw [e]; decide))⟩
set_option maxHeartbeats 1000000 in
theorem st_take (l : Launch) (E : FE) (g : Gh) (n : Nat) (σ : Sg) (o : Nat) (R : RR E g n σ) (hn : n ≤ 511) (hl0 : l.stackTraces = false) (ho : σ.2.2.2 o = 90) (p : Int32) : CT l E 12 122 [vR (some g.x), vI p, vR (some o)] σ 3 470 (fun r s => ∃ k, r = some (vI k) ∧ MCT l E 104 [vR (some g.m), vI p] g.x g.m o g.A (n + 1) k fIL s) (fun _ _ => False) := by
  obtain ⟨AR1, l1⟩ := R.s.l1
  obtain ⟨AR2, l2⟩ := R.s.l2
  obtain ⟨AR3, l3⟩ := R.s.l3
  have C : CT l E 11 54 [vR (some g.x), vI p] σ 3 470 (fun r s => ∃ v, r = some (vI v) ∧ ∃ j, j < 4 ∧ p = nI j ∧ ¬ σ.1 20800 (g.D j 0) 0 = 0 ∧ otkP E g.D j g.L1 g.L2 σ v s) (oX σ g.D p) := CT.mn (c_od_take l E 11 σ g.D g.x g.a0 p g.L1 g.L2 g.L3 AR1 AR2 AR3 (by decide) hl0 R.s.x1 R.s.x2 R.s.x3 R.s.sh R.s.wf l1 l2 l3 (fun j hj => by have := R.ls.2.1 j hj; omega)) (by
    rintro r s ⟨j, hj, hp, hal, v, e1, h⟩; exact ⟨v, e1, j, hj, hp, hal, h⟩)
  refine mono_la_20 (c_lw_take l E 12 σ g.x p o 3 470 (fun v s => ∃ j, j < 4 ∧ p = nI j ∧ ¬ σ.1 20800 (g.D j 0) 0 = 0 ∧ otkP E g.D j g.L1 g.L2 σ v s) (oX σ g.D p) (by decide) R.s.x1 C oX_two (by rintro v s ⟨j, hj, -, -, hQ⟩; exact (otk_k hQ o (by rw [ho]; decide)).trans ho)) ?_
  rintro r s (⟨v, s0, ⟨j, hj, rfl, hal, hQ⟩, rfl, rfl⟩ | ⟨h, rfl⟩ | ⟨h, rfl⟩)
  · refine ⟨0, rfl, ?_⟩
    have ha : al g σ j := R.alv hj hal
    obtain ⟨σ2, g', e2, R2, t0, q1, q2, q3⟩ := sim_take R (by omega) hj ha hQ
    have ho9 : s0.2.2.2 o = 90 := (otk_k hQ o (by rw [ho]; decide)).trans ho
    have q9 := otk_m hQ
    by_cases hW : (g.L1 j).length = 0
    · refine nrm (f := fIL) (F := fun τ => mtkF τ g.m g.A j (g.L1 j).length (g.L2 j).length) (fun _ _ => mtk_X) e2 R2 q1 q2 q3 t0 ho9 (fun hM => mono_la_20 (c_mo_take2 l E 8 _ g.m g.A j (by decide) hM hj (show ¬ s0.1 510000 (g.A 0) j = 0 by rw [q9.a R.s (c := 510000) (j := 0) (i := j) (by decide) (by decide), show σ.1 510000 (g.A 0) j = 1 from ha]; decide) (show s0.1 720000 (g.A 21) j = nI 0 by rw [q9.a R.s (c := 720000) (j := 21) (i := j) (by decide) (by decide), (R.i j hj).2.2.1, hW])) ?_)
      rintro r s2 ⟨rfl, rfl⟩
      unfold mtkF
      rw [if_pos hW]; exact ⟨rfl, rfl⟩
    · exact nrm (f := fIL) (F := fun τ => mtkF τ g.m g.A j (g.L1 j).length (g.L2 j).length) (fun _ _ => mtk_X) e2 R2 q1 q2 q3 t0 ho9 (fun hM => c_mo_take1 l E 8 _ g.m g.A j (g.L1 j).length (g.L2 j).length (by decide) hM hj (show ¬ s0.1 510000 (g.A 0) j = 0 by rw [q9.a R.s (c := 510000) (j := 0) (i := j) (by decide) (by decide), show σ.1 510000 (g.A 0) j = 1 from ha]; decide) (show s0.1 720000 (g.A 21) j = _ by rw [q9.a R.s (c := 720000) (j := 21) (i := j) (by decide) (by decide)]; exact (R.i j hj).2.2.1) (R.ls.1 j hj) (show s0.1 740000 (g.A 23) j = _ by rw [q9.a R.s (c := 740000) (j := 23) (i := j) (by decide) (by decide)]; exact (R.o j hj).2.1) (R.ls.2.1 j hj) (by show ¬ s0.1 730000 (g.A 22) (384 * j + 1) < 0 → (s0.1 730000 (g.A 22) (384 * j + 1)).toNatClampNeg < 256; rw [q9.a R.s (c := 730000) (j := 22) (i := 384 * j + 1) (by decide) (by decide)]; exact R.b9 hj ha hW))
  · obtain ⟨rfl, e⟩ := oX_1 h
    exact ⟨1, rfl, absM R ho e (by decide) (c_mo_take0 l E 8 _ g.m g.A p (by decide) R.s.mo (by rw [e]; decide))⟩
  · obtain ⟨rfl, e⟩ := oX_2 R h
    exact ⟨2, rfl, absM R ho e (by decide) (c_mo_take0 l E 8 _ g.m g.A p (by decide) R.s.mo (by rw [e]; decide))⟩
set_option maxHeartbeats 1000000 in
theorem st_free (l : Launch) (E : FE) (g : Gh) (n : Nat) (σ : Sg) (o : Nat) (R : RR E g n σ) (hn : n ≤ 511) (hl0 : l.stackTraces = false) (ho : σ.2.2.2 o = 90) (p y : Int32) : CT l E 12 125 [vR (some g.x), vI p, vI y, vR (some o)] σ 4 470 (fun r s => ∃ k, r = some (vI k) ∧ MCT l E 108 [vR (some g.m), vI p, vI y] g.x g.m o g.A (n + 1) k fZL s) (fun _ _ => False) := by
  obtain ⟨AR1, l1⟩ := R.s.l1
  have C : CT l E 11 57 [vR (some g.x), vI p, vI y] σ 4 470 (fun r s => ∃ v, r = some (vI v) ∧ ∃ j, j < 4 ∧ p = nI j ∧ ¬ σ.1 20800 (g.D j 0) 0 = 0 ∧ ofrP E g.D j g.L1 σ y v s) (oX σ g.D p) := CT.mn (c_od_free l E 11 σ g.D g.x g.a0 p y g.L1 AR1 (by decide) hl0 R.s.x1 R.s.x2 R.s.x3 R.s.sh R.s.wf l1 (fun j hj => by have := R.ls.1 j hj; omega) (fun j hj c m hc hm => by obtain ⟨k, s, l, it, t, T, a1, a2, a3, x1, x2, x3, x4, x5, x6, x7, x8, x9, x10, x11, x12, x13, x14, x15, x16, x17, x18, x19, x20, x21, x22, -⟩ := R.msg j hj c m hc hm; exact ⟨it, a3, x9, x10, x11, x19, x22⟩)) (by
    rintro r s ⟨j, hj, hp, hal, v, e1, h⟩; exact ⟨v, e1, j, hj, hp, hal, h⟩)
  refine mono_la_20 (c_lw_free l E 12 σ g.x p y o 4 470 (fun v s => ∃ j, j < 4 ∧ p = nI j ∧ ¬ σ.1 20800 (g.D j 0) 0 = 0 ∧ ofrP E g.D j g.L1 σ y v s) (oX σ g.D p) (by decide) R.s.x1 C oX_two (by rintro v s ⟨j, hj, -, -, hQ⟩; exact (ofr_k hQ o (by rw [ho]; decide)).trans ho)) ?_
  rintro r s (⟨v, s0, ⟨j, hj, rfl, hal, hQ⟩, rfl, rfl⟩ | ⟨h, rfl⟩ | ⟨h, rfl⟩)
  · refine ⟨0, rfl, ?_⟩
    have ha : al g σ j := R.alv hj hal
    obtain ⟨σ2, g', e2, R2, t0, q1, q2, q3⟩ := sim_free R (by omega) hj ha y hQ
    have ho9 : s0.2.2.2 o = 90 := (ofr_k hQ o (by rw [ho]; decide)).trans ho
    have q9 := ofr_m hQ
    exact nrm (f := fZL) (F := fun τ => mfrF τ g.m g.A j (g.L1 j).length y) (fun _ _ => mfr_X) e2 R2 q1 q2 q3 t0 ho9 (fun hM => c_mo_free1 l E 8 _ g.m g.A j (g.L1 j).length y (by decide) hM hj (show ¬ s0.1 510000 (g.A 0) j = 0 by rw [q9.a R.s (c := 510000) (j := 0) (i := j) (by decide) (by decide), show σ.1 510000 (g.A 0) j = 1 from ha]; decide) (by show ¬ itF (tknF (s0.1 610000 (g.A 10)) (s0.1 620000 (g.A 11)) y) 64 (64 * j) (-1) < 0 → ∃ it, it ≤ 4 ∧ s0.1 680000 (g.A 17) ((itF (tknF (s0.1 610000 (g.A 10)) (s0.1 620000 (g.A 11)) y) 64 (64 * j) (-1)).toNatClampNeg) = nI it; rw [show s0.1 610000 (g.A 10) = σ.1 610000 (g.A 10) from funext fun i => q9.a R.s (by decide) (by decide), show s0.1 620000 (g.A 11) = σ.1 620000 (g.A 11) from funext fun i => q9.a R.s (by decide) (by decide), show s0.1 680000 (g.A 17) = σ.1 680000 (g.A 17) from funext fun i => q9.a R.s (by decide) (by decide)]; exact R.it9 hj ha y) (show s0.1 720000 (g.A 21) j = _ by rw [q9.a R.s (c := 720000) (j := 21) (i := j) (by decide) (by decide)]; exact (R.i j hj).2.2.1) (by have := R.len hj ha; omega) (fun b h1 h2 => by show s0.1 610000 (g.A 10) b = 1 → ¬ s0.1 650000 (g.A 14) b < 0 ∧ (¬ s0.1 660000 (g.A 15) b < 0 → (s0.1 660000 (g.A 15) b).toNatClampNeg < 4); rw [show s0.1 610000 (g.A 10) = σ.1 610000 (g.A 10) from funext fun i => q9.a R.s (by decide) (by decide), show s0.1 650000 (g.A 14) = σ.1 650000 (g.A 14) from funext fun i => q9.a R.s (by decide) (by decide), show s0.1 660000 (g.A 15) = σ.1 660000 (g.A 15) from funext fun i => q9.a R.s (by decide) (by decide)]; exact R.nx9 (by omega) hj ha b h1 h2))
  · obtain ⟨rfl, e⟩ := oX_1 h
    exact ⟨1, rfl, absM R ho e (by decide) (c_mo_free0 l E 8 _ g.m g.A p y (by decide) R.s.mo (by rw [e]; decide))⟩
  · obtain ⟨rfl, e⟩ := oX_2 R h
    exact ⟨2, rfl, absM R ho e (by decide) (c_mo_free0 l E 8 _ g.m g.A p y (by decide) R.s.mo (by rw [e]; decide))⟩
set_option maxHeartbeats 1000000 in
theorem st_send (l : Launch) (E : FE) (g : Gh) (n : Nat) (σ : Sg) (o : Nat) (R : RR E g n σ) (hn : n ≤ 511) (hl0 : l.stackTraces = false) (ho : σ.2.2.2 o = 90) (p y w : Int32) (hw1 : w = 0 ∨ w = 1) : CT l E 12 121 [vR (some g.x), vI p, vI y, vI w, vR (some o)] σ 8 489 (fun r s => ∃ k, r = some (vI k) ∧ MCT l E 103 [vR (some g.m), vI p, vI y, vI w] g.x g.m o g.A (n + 1) k fIL s) (fun _ _ => False) := by
  obtain ⟨AR1, l1⟩ := R.s.l1
  obtain ⟨AR2, l2⟩ := R.s.l2
  obtain ⟨AR3, l3⟩ := R.s.l3
  have C : CT l E 11 53 [vR (some g.x), vI p, vI y, vI w] σ 8 489 (fun r s => ∃ v, r = some (vI v) ∧ ∃ j, j < 4 ∧ p = nI j ∧ ¬ σ.1 20800 (g.D j 0) 0 = 0 ∧ osnP E g.D g.x j ((fun j => (σ.1 40300 (g.D j 8) 0).toNatClampNeg) j) g.L1 σ y w v s) (oX σ g.D p) := CT.mn (c_od_send l E 11 σ g.D g.x g.a0 p y w (fun j => (σ.1 40300 (g.D j 8) 0).toNatClampNeg) g.L1 g.L2 g.L3 AR1 AR2 AR3 (by decide) hl0 R.s.x1 R.s.x2 R.s.x3 R.s.sh R.s.wf ⟨R.s.wf, R.s.sh, l1, l2, l3⟩ R.hits (R.own9 (by omega) y) (fun q hq => by have := R.ls.1 q hq; omega)) (by
    rintro r s ⟨j, hj, hp, hal, v, e1, h⟩; exact ⟨v, e1, j, hj, hp, hal, h⟩)
  refine mono_la_20 (c_lw_send l E 12 σ g.x p y w o 8 489 (fun v s => ∃ j, j < 4 ∧ p = nI j ∧ ¬ σ.1 20800 (g.D j 0) 0 = 0 ∧ osnP E g.D g.x j ((fun j => (σ.1 40300 (g.D j 8) 0).toNatClampNeg) j) g.L1 σ y w v s) (oX σ g.D p) (by decide) R.s.x1 C oX_two (by rintro v s ⟨j, hj, -, -, hQ⟩; exact (osn_k hQ o (by rw [ho]; decide)).trans ho)) ?_
  rintro r s (⟨v, s0, ⟨j, hj, rfl, hal, hQ⟩, rfl, rfl⟩ | ⟨h, rfl⟩ | ⟨h, rfl⟩)
  · refine ⟨0, rfl, ?_⟩
    have ha : al g σ j := R.alv hj hal
    have ho9 : s0.2.2.2 o = 90 := (osn_k hQ o (by rw [ho]; decide)).trans ho
    obtain ⟨it, z9, d1, d2, d3, d4, d5, -⟩ := R.d j hj
    have eit : (σ.1 40300 (g.D j 8) 0).toNatClampNeg = it := by rw [(d5 ha).1, nI_clamp (by omega)]
    dsimp only at hQ
    rw [eit] at hQ
    obtain ⟨q, b, t, IV, g', σ2, ⟨y1, y2, y3, y4, y5⟩, hMq, -, e2, R2, t0, q1, q2, q3⟩ := sim_send R (by omega) hj ha d3 d1 d4 d2 y w hw1 hQ
    exact nrm (f := fIL) (F := fun τ => msnF τ g.m g.A j y w q b it z9 (g.L1 q).length t) (fun _ _ => msn_X) e2 R2 q1 q2 q3 t0 ho9 (fun hM => c_mo_send1 l E 8 _ g.m g.A j y w q b it z9 (g.L1 q).length t (fun i τ => IV i (sX τ s0)) (by decide) hM hj (show ¬ s0.1 510000 (g.A 0) j = 0 by rw [(hMq _ _ _ ⟨by decide, Or.inr ⟨_, by decide, rfl⟩⟩), show σ.1 510000 (g.A 0) j = 1 from ha]; decide) (by decide) y1 y2 d1 (show s0.1 570000 (g.A 6) j = _ from (hMq _ _ _ ⟨by decide, Or.inr ⟨_, by decide, rfl⟩⟩).trans d3) d2 (show s0.1 580000 (g.A 7) j = _ from (hMq _ _ _ ⟨by decide, Or.inr ⟨_, by decide, rfl⟩⟩).trans d4) hw1 y3 y4 (fun h1 h2 h3 => by obtain ⟨z1, z2, z3⟩ := y5 h1 h2 h3; exact ⟨z1, fun i τ hi hv => by have z4 := z2 i (sX τ s0) hi hv; rw [mv2_X] at z4; exact z4, by rw [show ∀ s9, sX (itF (mv1 g.A g.m j b) it 0 s9) s0 = itF (mv1 g.A g.m j b) it 0 (sX s9 s0) from fun s9 => (itX (fun _ _ => mv1_X) it 0 s9).symm]; exact z3⟩))
  · obtain ⟨rfl, e⟩ := oX_1 h
    exact ⟨1, rfl, absM R ho e (by decide) (c_mo_send0 l E 8 _ g.m g.A p y w (by decide) R.s.mo (by rw [e]; decide))⟩
  · obtain ⟨rfl, e⟩ := oX_2 R h
    exact ⟨2, rfl, absM R ho e (by decide) (c_mo_send0 l E 8 _ g.m g.A p y w (by decide) R.s.mo (by rw [e]; decide))⟩
set_option maxHeartbeats 1000000 in
theorem st_reply (l : Launch) (E : FE) (g : Gh) (n : Nat) (σ : Sg) (o : Nat) (R : RR E g n σ) (hn : n ≤ 511) (hl0 : l.stackTraces = false) (ho : σ.2.2.2 o = 90) (p : Int32) : CT l E 12 124 [vR (some g.x), vI p, vR (some o)] σ 8 489 (fun r s => ∃ k, r = some (vI k) ∧ MCT l E 106 [vR (some g.m), vI p] g.x g.m o g.A (n + 1) k fIL s) (fun _ _ => False) := by
  obtain ⟨AR1, l1⟩ := R.s.l1
  obtain ⟨AR2, l2⟩ := R.s.l2
  obtain ⟨AR3, l3⟩ := R.s.l3
  have C : CT l E 11 56 [vR (some g.x), vI p] σ 8 489 (fun r s => ∃ v, r = some (vI v) ∧ ∃ j, j < 4 ∧ p = nI j ∧ ¬ σ.1 20800 (g.D j 0) 0 = 0 ∧ orpP E g.D g.x j ((fun j => (σ.1 40300 (g.D j 8) 0).toNatClampNeg) j) g.L1 g.L2 σ v s) (oX σ g.D p) := CT.mn (c_od_reply l E 11 σ g.D g.x g.a0 p (fun j => (σ.1 40300 (g.D j 8) 0).toNatClampNeg) g.L1 g.L2 g.L3 AR1 AR2 AR3 (by decide) hl0 R.s.x1 R.s.x2 R.s.x3 R.s.sh R.s.wf ⟨R.s.wf, R.s.sh, l1, l2, l3⟩ R.hits R.snd9 (fun q hq => by have := R.ls.1 q hq; omega) (fun q hq => by have := R.ls.2.1 q hq; omega)) (by
    rintro r s ⟨j, hj, hp, hal, v, e1, h⟩; exact ⟨v, e1, j, hj, hp, hal, h⟩)
  refine mono_la_20 (c_lw_reply l E 12 σ g.x p o 8 489 (fun v s => ∃ j, j < 4 ∧ p = nI j ∧ ¬ σ.1 20800 (g.D j 0) 0 = 0 ∧ orpP E g.D g.x j ((fun j => (σ.1 40300 (g.D j 8) 0).toNatClampNeg) j) g.L1 g.L2 σ v s) (oX σ g.D p) (by decide) R.s.x1 C oX_two (by rintro v s ⟨j, hj, -, -, hQ⟩; exact (orp_k hQ o (by rw [ho]; decide)).trans ho)) ?_
  rintro r s (⟨v, s0, ⟨j, hj, rfl, hal, hQ⟩, rfl, rfl⟩ | ⟨h, rfl⟩ | ⟨h, rfl⟩)
  · refine ⟨0, rfl, ?_⟩
    have ha : al g σ j := R.alv hj hal
    have ho9 : s0.2.2.2 o = 90 := (orp_k hQ o (by rw [ho]; decide)).trans ho
    obtain ⟨it, z9, d1, d2, d3, d4, d5, -⟩ := R.d j hj
    have eit : (σ.1 40300 (g.D j 8) 0).toNatClampNeg = it := by rw [(d5 ha).1, nI_clamp (by omega)]
    dsimp only at hQ
    rw [eit] at hQ
    obtain ⟨q, b, t, IV, g', σ2, ⟨y1, y3, y4, y5⟩, hMq, -, e2, R2, t0, q1, q2, q3⟩ := sim_reply R (by omega) hj ha d3 d1 d4 d2 hQ
    exact nrm (f := fIL) (F := fun τ => mrpF τ g.m g.A j q b it z9 (g.L1 q).length (g.L2 j).length t) (fun _ _ => mrp_X) e2 R2 q1 q2 q3 t0 ho9 (fun hM => c_mo_reply1 l E 8 _ g.m g.A j q b it z9 (g.L1 q).length (g.L2 j).length t (fun i τ => IV i (sX τ s0)) (by decide) hM hj (show ¬ s0.1 510000 (g.A 0) j = 0 by rw [(hMq _ _ _ ⟨by decide, Or.inr ⟨_, by decide, rfl⟩⟩), show σ.1 510000 (g.A 0) j = 1 from ha]; decide) (by decide) d1 (show s0.1 570000 (g.A 6) j = _ from (hMq _ _ _ ⟨by decide, Or.inr ⟨_, by decide, rfl⟩⟩).trans d3) d2 (show s0.1 580000 (g.A 7) j = _ from (hMq _ _ _ ⟨by decide, Or.inr ⟨_, by decide, rfl⟩⟩).trans d4) (show s0.1 740000 (g.A 23) j = _ from (hMq _ _ _ ⟨by decide, Or.inr ⟨_, by decide, rfl⟩⟩).trans (R.o j hj).2.1) (R.ls.2.1 j hj) y1 y3 y4 (fun h1 h2 h3 h4 => by obtain ⟨z1, z2, z3⟩ := y5 h1 h2 h3 h4; exact ⟨z1, fun i τ hi hv => by have z4 := z2 i (sX τ s0) hi hv; rw [mv2_X] at z4; exact z4, by rw [show ∀ s9, sX (itF (mv1 g.A g.m j b) it 0 s9) s0 = itF (mv1 g.A g.m j b) it 0 (sX s9 s0) from fun s9 => (itX (fun _ _ => mv1_X) it 0 s9).symm]; exact z3⟩))
  · obtain ⟨rfl, e⟩ := oX_1 h
    exact ⟨1, rfl, absM R ho e (by decide) (c_mo_reply0 l E 8 _ g.m g.A p (by decide) R.s.mo (by rw [e]; decide))⟩
  · obtain ⟨rfl, e⟩ := oX_2 R h
    exact ⟨2, rfl, absM R ho e (by decide) (c_mo_reply0 l E 8 _ g.m g.A p (by decide) R.s.mo (by rw [e]; decide))⟩
set_option maxHeartbeats 1000000 in
theorem st_die (l : Launch) (E : FE) (g : Gh) (n : Nat) (σ : Sg) (o : Nat) (R : RR E g n σ) (hn : n ≤ 511) (hl0 : l.stackTraces = false) (ho : σ.2.2.2 o = 90) (p : Int32) : CT l E 12 116 [vR (some g.x), vI p] σ 58 12696 (fun r s => ∃ k, r = some (vI k) ∧ MCV l E 82 [vR (some g.m), vI p] g.x g.m o g.A (n + 1) k s) (fun _ _ => False) := by
  obtain ⟨AR1, l1⟩ := R.s.l1
  obtain ⟨AR2, l2⟩ := R.s.l2
  obtain ⟨AR3, l3⟩ := R.s.l3
  have C : CT l E 11 48 [vR (some g.x), vI p] σ 58 12696 (fun r s => r = none ∧ ∃ j, j < 4 ∧ p = nI j ∧ ¬ σ.1 20800 (g.D j 0) 0 = 0 ∧ odiP E g.D g.x j g.L1 g.L2 g.L3 σ s) (oX σ g.D p) := CT.mn (c_od_die l E 11 σ g.D g.x g.a0 p g.L1 g.L2 g.L3 AR1 AR2 AR3 (by decide) hl0 R.s.x1 R.s.x2 R.s.x3 R.s.sh R.s.wf ⟨R.s.wf, R.s.sh, l1, l2, l3⟩ R.ls.1 (fun q hq => by have := R.ls.2.1 q hq; omega) R.w70) (by
    rintro r s ⟨j, hj, hp, hal, e1, h⟩; exact ⟨e1, j, hj, hp, hal, h⟩)
  refine mono_la_20 (c_lw_die l E 12 σ g.x p 58 12696 (fun s => ∃ j, j < 4 ∧ p = nI j ∧ ¬ σ.1 20800 (g.D j 0) 0 = 0 ∧ odiP E g.D g.x j g.L1 g.L2 g.L3 σ s) (oX σ g.D p) (by decide) R.s.x1 C oX_two) ?_
  rintro r s (⟨⟨j, hj, rfl, hal, hQ⟩, rfl⟩ | ⟨h, rfl⟩ | ⟨h, rfl⟩)
  · refine ⟨0, rfl, ?_⟩
    have ha : al g σ j := R.alv hj hal
    obtain ⟨IV, JV, g', y1, y2, y3, y4, y5, y6, hMq, R2, t0, q1, q2, q3⟩ := sim_die R (by omega) hj ha hQ
    obtain ⟨L1', L3', FC, -⟩ := die_cls (fl := fun r => decide (¬ hcB σ (g.D r 0) (g.L1 j) (g.L2 j) = 0)) R.s hj (fun r _ _ => decide_eq_true_iff) hQ
    have ko : s.2.2.2 o = 90 := (FC.1 o (by rw [ho]; decide)).trans ho
    have e2 : (diS s g.m g.A j (g.L1 j).length (g.L2 j).length).2 = s.2 := diS_2
    have hM9 : MO s g.m g.A := by
      have h1 := R2.s.mo
      rw [q2, q3] at h1
      exact MO.of2 h1 e2.symm
    refine ⟨hM9.1, mono_la_20 (c_mo_die1 l E 8 _ g.m g.A j (g.L1 j).length (g.L2 j).length IV JV (by decide) hM9 hj (show ¬ s.1 510000 (g.A 0) j = 0 by rw [(hMq _ _ _ ⟨by decide, Or.inr ⟨_, by decide, rfl⟩⟩), show σ.1 510000 (g.A 0) j = 1 from ha]; decide) y1 y2 y3 y4 y5 y6) ?_⟩
    rintro r s2 ⟨rfl, rfl⟩
    exact ⟨rfl, g', R2, q1, q2, q3, t0, by rw [e2]; exact ko⟩
  · obtain ⟨rfl, e⟩ := oX_1 h
    exact ⟨1, rfl, absV R ho e (c_mo_die0 l E 8 _ g.m g.A p (by decide) R.s.mo (by rw [e]; decide))⟩
  · obtain ⟨rfl, e⟩ := oX_2 R h
    exact ⟨2, rfl, absV R ho e (c_mo_die0 l E 8 _ g.m g.A p (by decide) R.s.mo (by rw [e]; decide))⟩
theorem bn_IA {al : Nat → Int32} {y : Int32} (h : y < 0 ∨ 4 ≤ y) : bnT al y = 1 := by
  have e := abs_IA (al := fun _ => 1) h
  unfold absF at e
  unfold bnT
  split
  · rfl
  · rename_i h1
    rw [if_neg h1] at e
    split
    · rename_i h2
      rw [if_pos h2, if_neg (show ¬ (1 : Int32) = 0 by decide)] at e
      exact absurd e (by decide)
    · rfl
theorem bn_j {al : Nat → Int32} {j : Nat} (hj : j < 4) : bnT al (nI j) = if al j = 0 then 0 else 2 := by
  unfold bnT
  rw [if_neg (lt0_nI (by omega)), if_pos (show nI j ≤ 3 from (nI_leI (b := 3) (by omega) (by omega)).mpr (by omega)), nI_clamp (by omega)]
theorem bX_two {σ : Sg} {D : Nat → Nat → Nat} {p : Int32} : ∀ X s, bX σ D p X s → X = "java/lang/IllegalArgumentException" ∨ X = "java/lang/IllegalStateException" := by
  rintro X s ⟨-, ⟨e, -⟩ | ⟨e, -⟩⟩
  · exact Or.inl e
  · exact Or.inr e
set_option maxHeartbeats 1000000 in
theorem st_born (l : Launch) (E : FE) (g : Gh) (n : Nat) (σ : Sg) (o : Nat) (R : RR E g n σ) (hn : n ≤ 511) (hl0 : l.stackTraces = false) (ho : σ.2.2.2 o = 90) (p : Int32) : CT l E 12 115 [vR (some g.x), vI p] σ 2 12 (fun r s => ∃ k, r = some (vI k) ∧ MCV l E 78 [vR (some g.m), vI p] g.x g.m o g.A (n + 1) k s) (fun _ _ => False) := by
  have C : CT l E 11 47 [vR (some g.x), vI p] σ 2 12 (fun r s => r = none ∧ ∃ j, j < 4 ∧ p = nI j ∧ σ.1 20800 (g.D j 0) 0 = 0 ∧ s = sI (sI σ 20800 (g.D j 0) 0 1) 20900 (g.D j 0) 0 (σ.1 20900 (g.D j 0) 0 + 1)) (bX σ g.D p) := CT.mn (c_od_born l E 11 σ g.D g.x g.a0 p (by decide) hl0 R.s.x1 R.s.x2 R.s.x3 R.s.sh R.s.wf) (by
    rintro r s ⟨j, hj, hp, hal, e1, h⟩; exact ⟨e1, j, hj, hp, hal, h⟩)
  refine mono_la_20 (c_lw_born l E 12 σ g.x p 2 12 (fun s => ∃ j, j < 4 ∧ p = nI j ∧ σ.1 20800 (g.D j 0) 0 = 0 ∧ s = sI (sI σ 20800 (g.D j 0) 0 1) 20900 (g.D j 0) 0 (σ.1 20900 (g.D j 0) 0 + 1)) (bX σ g.D p) (by decide) R.s.x1 C bX_two) ?_
  rintro r s (⟨⟨j, hj, rfl, hal, rfl⟩, rfl⟩ | ⟨h, rfl⟩ | ⟨h, rfl⟩)
  · refine ⟨0, rfl, ?_⟩
    have h51 : σ.1 510000 (g.A 0) j = 0 := by rw [← (R.p j hj).1]; exact hal
    have ha : ¬ al g σ j := fun z => by rw [show σ.1 510000 (g.A 0) j = 1 from z] at h51; exact absurd h51 (by decide)
    have R2 := sim_born R (by omega) hj ha
    refine ⟨R.s.mo.1, mono_la_20 (c_mo_born1 l E 8 _ g.m g.A j (by decide) (MO.of2 R.s.mo rfl) hj (show (sI (sI σ 20800 (g.D j 0) 0 1) 20900 (g.D j 0) 0 _).1 510000 (g.A 0) j = 0 by rw [rII (by decide), rII (by decide)]; exact h51)) ?_⟩
    rintro r s2 ⟨rfl, rfl⟩
    exact ⟨rfl, _, R2, rfl, rfl, rfl, brn_t, by rw [brn_2]; exact ho⟩
  · obtain ⟨rfl, ⟨-, h⟩ | ⟨h, -⟩⟩ := h
    · exact ⟨1, rfl, absV R ho (bn_IA h) (c_mo_born0 l E 8 _ g.m g.A p (by decide) R.s.mo (by rw [bn_IA h]; decide))⟩
    · exact absurd h (by decide)
  · obtain ⟨rfl, ⟨h, -⟩ | ⟨-, j, hj, rfl, h⟩⟩ := h
    · exact absurd h (by decide)
    · have e : bnT (s.1 510000 (g.A 0)) (nI j) = 2 := by
        rw [bn_j hj, if_neg]
        rw [← (R.p j hj).1]; exact h
      exact ⟨2, rfl, absV R ho e (c_mo_born0 l E 8 _ g.m g.A (nI j) (by decide) R.s.mo (by rw [e]; decide))⟩
