/-! die, as the class has it -/
section DIC
variable {E : FE} {g : Gh} {σ σ' s s' s1 sb : Sg} {K J : Nat → Bool} {D : Nat → Nat → Nat} {p : Nat} {L L' : Nat → List Nat} {V : Nat → List (Int32 × Int32)}
theorem Fr.tr {a b c : Sg} (h1 : Fr K J a b) (h2 : Fr K J b c) : Fr K J a c := (h1.trans h2).weak (fun c hc => by simp [hc]) (fun c hc => by simpa using hc)
theorem Fr.fl {a b : Sg} (F : Fr K J a b) (h : ∀ c, c < 200000 → K c = false) : FL a b := ⟨F.1, fun c y i hy hc => F.2.2 c y i hy (h c hc)⟩
/-- L' has behind L works as V says -/
def CWs (p : Nat) (s : Sg) (L L' : Nat → List Nat) (V : Nat → List (Int32 × Int32)) : Prop := ∀ r, r < 4 → r ≠ p → ∃ W, L' r = L r ++ W ∧ W.length = (V r).length ∧ ∀ (i w : Nat), W[i]? = some w → ∃ k c, (V r)[i]? = some (k, c) ∧ s.2.2.2 w = 5 ∧ s.1 50000 w 0 = k ∧ s.2.1 50106 w 0 = none ∧ s.1 50200 w 0 = c
theorem CWs.fl (h : CWs p s L L' V) (F : FL s s') : CWs p s' L L' V := by
  intro r hr hp
  obtain ⟨W, h1, h2, h3⟩ := h r hr hp
  refine ⟨W, h1, h2, fun i w hi => ?_⟩
  obtain ⟨k, c, e1, e2, e3, e4, e5⟩ := h3 i w hi
  have z : s.2.2.2 w ≠ 0 := by rw [e2]; decide
  exact ⟨k, c, e1, (F.1 w z).trans e2, (F.2 _ _ _ z (by decide)).1.trans e3, (F.2 _ _ _ z (by decide)).2.trans e4, (F.2 _ _ _ z (by decide)).1.trans e5⟩
theorem CWs.cg {V' : Nat → List (Int32 × Int32)} (h : CWs p s L L' V) (e : ∀ r, r < 4 → r ≠ p → V' r = V r) : CWs p s L L' V' := by
  intro r hr hp
  rw [e r hr hp]; exact h r hr hp
theorem CWs.cl {L2 : Nat → List Nat} (h : CWs p s L L' V) (e : ∀ r, r < 4 → r ≠ p → L2 r = L' r) : CWs p s L L2 V := by
  intro r hr hp
  rw [e r hr hp]; exact h r hr hp
theorem wk_rd {q : Nat} {k c : Int32} : (wkS s q k none c).2.2.2 q = 5 ∧ (wkS s q k none c).1 50000 q 0 = k ∧ (wkS s q k none c).2.1 50106 q 0 = none ∧ (wkS s q k none c).1 50200 q 0 = c := by
  refine ⟨?_, ?_, ?_, ?_⟩ <;> simp [wkS, sI, sO, sN]
theorem CWs.add {q j : Nat} {k c : Int32} (h : CWs p s L L' V) (q0 : s.2.2.2 q = 0) (he : Eqk E 20 41 (wkS s q k none c) s') : CWs p s' L (upL L' j (L' j ++ [q])) (upL V j (V j ++ [(k, c)])) := by
  have F1 : FL s (wkS s q k none c) := FL.wk q0
  have F2 : FL (wkS s q k none c) s' := FL.eqk he (by decide) (by decide)
  have h9 := h.fl (F1.trans F2)
  intro r hr hp
  obtain ⟨W, h1, h2, h3⟩ := h9 r hr hp
  by_cases e : r = j
  · subst e
    rw [upL_s, upL_s]
    refine ⟨W ++ [q], by rw [h1, List.append_assoc], by rw [List.length_append, List.length_append, h2]; rfl, fun i w hi => ?_⟩
    rcases app_get hi with ⟨i1, i2⟩ | ⟨rfl, rfl⟩
    · obtain ⟨k', c', e1, e2⟩ := h3 i w i2
      exact ⟨k', c', by rw [List.getElem?_append_left (by omega)]; exact e1, e2⟩
    · obtain ⟨y1, y2, y3, y4⟩ := wk_rd (s := s) (q := w) (k := k) (c := c)
      have z : (wkS s w k none c).2.2.2 w ≠ 0 := by rw [y1]; decide
      refine ⟨k, c, by rw [h2]; simp, (F2.1 w z).trans y1, (F2.2 _ _ _ z (by decide)).1.trans y2, (F2.2 _ _ _ z (by decide)).2.trans y3, (F2.2 _ _ _ z (by decide)).1.trans y4⟩
  · rw [upL_n e, upL_n e]; exact ⟨W, h1, h2, h3⟩
theorem any_cg {f f' : Nat → Bool} : ∀ (l : List Nat), (∀ x, x ∈ l → f x = f' x) → l.any f = l.any f'
  | [], _ => rfl
  | x :: t, h => by
    rw [List.any_cons, List.any_cons, h x List.mem_cons_self, any_cg t (fun y hy => h y (List.mem_cons_of_mem _ hy))]
theorem hcM_fl {c m : Nat} (F : FL s s') (hc : s.2.2.2 c ≠ 0) (hm : s.2.2.2 m ≠ 0) : hcM s' c m = hcM s c m := by
  unfold hcM frmF
  rw [(F.2 20800 c 0 hc (by decide)).1, (F.2 20000 c 0 hc (by decide)).1, (F.2 20900 c 0 hc (by decide)).1, (F.2 60100 m 0 hm (by decide)).1, (F.2 60200 m 0 hm (by decide)).1]
theorem hcW_fl {c w : Nat} (F : FL s s') (hc : s.2.2.2 c ≠ 0) (hw : s.2.2.2 w ≠ 0) (hm : ∀ m, s.2.1 50106 w 0 = some m → s.2.2.2 m ≠ 0) : hcW s' c w = hcW s c w := by
  unfold hcW
  rw [(F.2 50000 w 0 hw (by decide)).1, (F.2 50106 w 0 hw (by decide)).2]
  cases e : s.2.1 50106 w 0 with
  | none => rfl
  | some m => dsimp only; rw [hcM_fl F hc (hm m e)]
theorem hcB_fl {c : Nat} {La Lb : List Nat} (F : FL s s') (hc : s.2.2.2 c ≠ 0) (ha : ∀ w, w ∈ La → s.2.2.2 w ≠ 0 ∧ ∀ m, s.2.1 50106 w 0 = some m → s.2.2.2 m ≠ 0) (hb : ∀ m, m ∈ Lb → s.2.2.2 m ≠ 0) : hcB s' c La Lb = hcB s c La Lb := by
  unfold hcB
  rw [any_cg La (fun w hw => hcW_fl F hc (ha w hw).1 (ha w hw).2), any_cg Lb (fun m hm => hcM_fl F hc (hb m hm))]
theorem KL1_lt : ∀ c, c < 200000 → KL1 c = false := fun c hc => by
  unfold KL1
  simp only [Bool.or_eq_false_iff, beq_eq_false_iff_ne]; omega
theorem Fr.w1 {q : Nat} {k c : Int32} (q0 : s.2.2.2 q = 0) (he : Eqk E 20 41 (wkS s q k none c) s') : Fr KL1 JW s s' :=
  ((Fr.wk (K := fun _ => false) q0).trans (Fr.k he)).weak (fun c hc => by simpa [KL1] using hc) (fun j hj => by simpa [JW] using hj)
theorem dfP_e {L2 : Nat → List Nat} {fl : Nat → Bool} (hp : p < 4) (hk : ∀ i, i < 4 → s1.2.2.2 (D i 0) ≠ 0) (hw : ∀ w, w ∈ L p → s1.2.2.2 w ≠ 0 ∧ ∀ m, s1.2.1 50106 w 0 = some m → s1.2.2.2 m ≠ 0) (hm : ∀ m, m ∈ L2 p → s1.2.2.2 m ≠ 0) (hfl : ∀ r, r < 4 → r ≠ p → (fl r = true ↔ ¬ hcB s1 (D r 0) (L p) (L2 p) = 0)) (hpp : hcB s1 (D p 0) (L p) (L2 p) = 0) :
    ∀ (k i : Nat) (Lc : Nat → List Nat) (s : Sg) (L' : Nat → List Nat) (s' : Sg), i + k = 4 → dfP E D p L2 k i Lc s L' s' → Fr KL1 JW s1 s → Lc p = L p → CWs p s L Lc (V1 p fl i) → Fr KL1 JW s1 s' ∧ L' p = L p ∧ CWs p s' L L' (V1 p fl 4)
  | 0, i, Lc, s, L', s', hi, h, F, hL, hC => by
    obtain ⟨rfl, rfl⟩ := h
    rw [show i = 4 from by omega] at hC
    exact ⟨F, hL, hC⟩
  | k + 1, i, Lc, s, L', s', hi, h, F, hL, hC => by
    have e := hcB_fl (c := D i 0) (La := L p) (Lb := L2 p) (F.fl KL1_lt) (hk i (by omega)) hw hm
    unfold dfP at h
    rw [hL, e] at h
    by_cases c : hcB s1 (D i 0) (L p) (L2 p) = 0
    · rw [if_pos c] at h
      refine dfP_e hp hk hw hm hfl hpp k (i + 1) Lc s L' s' (by omega) h F hL (hC.cg (fun r hr hrp => ?_))
      unfold V1
      by_cases y : r < i ∧ r ≠ p ∧ fl r = true
      · rw [if_pos y, if_pos ⟨by omega, y.2⟩]
      · rw [if_neg y, if_neg (fun y' => ?_)]
        have : r = i := by
          by_cases e : r = i
          · exact e
          · exact absurd ⟨by omega, y'.2⟩ y
        subst this
        exact (hfl r hr hrp).mp y'.2.2 c
    · rw [if_neg c] at h
      obtain ⟨w, s2, AR, q0, qe, he, hl, h⟩ := h
      have hip : i ≠ p := fun e => c (by rw [e]; exact hpp)
      refine dfP_e hp hk hw hm hfl hpp k (i + 1) _ s2 L' s' (by omega) h (F.tr (Fr.w1 q0 he)) (by rw [upL_n hip.symm]; exact hL) ((hC.add (j := i) q0 he).cg (fun r hr hrp => ?_))
      by_cases e : r = i
      · subst e
        rw [upL_s]
        unfold V1
        rw [if_pos ⟨by omega, hip, (hfl r hr hrp).mpr c⟩, if_neg (by omega)]; rfl
      · rw [upL_n e]
        unfold V1
        by_cases y : r < i ∧ r ≠ p ∧ fl r = true
        · rw [if_pos y, if_pos ⟨by omega, y.2⟩]
        · rw [if_neg y, if_neg (fun y' => y ⟨by omega, y'.2⟩)]
/-- the nodes of p have ended, up to i -/
def ENDP (s : Sg) (a1 i : Nat) (τ : Sg) : Prop := τ.2.2 = s.2.2 ∧ (∀ c a x, c ∉ [30200, 30406, 30506, 110003] → τ.1 c a x = s.1 c a x ∧ τ.2.1 c a x = s.2.1 c a x) ∧ (∀ a x, a ≠ a1 → τ.2.1 110003 a x = s.2.1 110003 a x) ∧ (∀ k, k < i → τ.2.1 110003 a1 k = none) ∧ (∀ k, i ≤ k → τ.2.1 110003 a1 k = s.2.1 110003 a1 k) ∧
  (∀ a, (∀ k, k < i → s.2.1 110003 a1 k ≠ some a) → ∀ x, τ.1 30200 a x = s.1 30200 a x ∧ τ.2.1 30406 a x = s.2.1 30406 a x ∧ τ.2.1 30506 a x = s.2.1 30506 a x) ∧ (∀ k a, k < i → s.2.1 110003 a1 k = some a → τ.1 30200 a 0 = 1)
theorem ENDP.all {a1 : Nat} (k : Nat) : ENDP s a1 k (itF (endF a1) k 0 s) := by
  have h := itF_ind (f := endF a1) (ENDP s a1) k 0 s ⟨rfl, fun _ _ _ _ => ⟨rfl, rfl⟩, fun _ _ _ => rfl, fun k hk => absurd hk (Nat.not_lt_zero _), fun _ _ => rfl, fun _ _ _ => ⟨rfl, rfl, rfl⟩, fun k a hk => absurd hk (Nat.not_lt_zero _)⟩ (fun j τ _ _ h => ?_)
  · rw [Nat.zero_add] at h; exact h
  · obtain ⟨h1, h2, h3, h4, h5, h6, h7⟩ := h
    have ej := h5 j (Nat.le_refl _)
    unfold endF
    cases e : τ.2.1 110003 a1 j with
    | none =>
      dsimp only
      rw [e] at ej
      refine ⟨h1, h2, h3, fun k hk => ?_, fun k hk => h5 k (by omega), fun a ha => h6 a (fun k hk => ha k (by omega)), fun k a hk ha => ?_⟩
      · by_cases z : k = j
        · rw [z]; exact e
        · exact h4 k (by omega)
      · by_cases z : k = j
        · rw [z, ← ej] at ha; cases ha
        · exact h7 k a (by omega) ha
    | some n =>
      dsimp only
      rw [e] at ej
      refine ⟨h1, fun c a x hc => ?_, fun a x ha => ?_, fun k hk => ?_, fun k hk => ?_, fun a ha x => ?_, fun k a hk ha => ?_⟩
      · have hc' := hc
        simp only [List.mem_cons, List.not_mem_nil, or_false, not_or] at hc'
        obtain ⟨c1, c2, c3, c4⟩ := hc'
        obtain ⟨y1, y2⟩ := h2 c a x hc
        exact ⟨(rII c1).trans y1, by rw [rOO c4, rOO c3, rOO c2]; exact y2⟩
      · rw [← h3 a x ha]
        simp [sO, sI, ha]
      · by_cases z : k = j
        · rw [z]; exact rOs
        · have e2 : (sO (sO (sO (sI τ 30200 n 0 1) 30406 n 0 none) 30506 n 0 none) 110003 a1 j none).2.1 110003 a1 k = τ.2.1 110003 a1 k := by simp [sO, sI, z]
          rw [e2]; exact h4 k (by omega)
      · have e2 : (sO (sO (sO (sI τ 30200 n 0 1) 30406 n 0 none) 30506 n 0 none) 110003 a1 j none).2.1 110003 a1 k = τ.2.1 110003 a1 k := by simp [sO, sI, show k ≠ j by omega]
        rw [e2]; exact h5 k (by omega)
      · have hn : a ≠ n := fun z => ha j (by omega) (by rw [z]; exact ej.symm)
        obtain ⟨y1, y2, y3⟩ := h6 a (fun k hk => ha k (by omega)) x
        refine ⟨?_, ?_, ?_⟩
        · rw [← y1]; simp [sO, sI, hn]
        · rw [← y2]; simp [sO, sI, hn]
        · rw [← y3]; simp [sO, sI, hn]
      · by_cases z : a = n
        · rw [z]; simp [sO, sI]
        · have z2 : k ≠ j := fun y => by rw [y, ← ej] at ha; cases ha; exact z rfl
          have e2 : (sO (sO (sO (sI τ 30200 n 0 1) 30406 n 0 none) 30506 n 0 none) 110003 a1 j none).1 30200 a 0 = τ.1 30200 a 0 := by simp [sO, sI, z]
          rw [e2]; exact h7 k a (by omega) ha
/-- watches of the dead end -/
def KLV : Nat → Bool := fun c => c / 10000 == 20 || c / 10000 == 41 || c / 10000 == 22 || c / 10000 == 43
def JLV : Nat → Bool := fun j => j == 5 || j == 41 || j == 43
theorem KLV_lt : ∀ c, c < 200000 → KLV c = false := fun c hc => by
  unfold KLV
  simp only [Bool.or_eq_false_iff, beq_eq_false_iff_ne]; omega
def ddW (s : Sg) (w : Nat) : Bool := match s.2.1 70003 w 0 with
  | none => false
  | some n => !(s.1 30200 n 0 == 0)
def dthC (s : Sg) (ws : List Nat) : List (Int32 × Int32) := (ws.filter (ddW s)).map (fun w => (4, s.1 70100 w 0))
def kpC (s : Sg) (ws : List Nat) : List Nat := ws.filter (fun w => !(ddW s w))
theorem ewP_e {q : Nat} (hwf : WF sb) : ∀ (ws ks : List Nat) (Lc L3c : Nat → List Nat) (s : Sg) (L' L3' : Nat → List Nat) (s' : Sg) (V : Nat → List (Int32 × Int32)), ewP E D q ks ws Lc L3c s L' L3' s' → Fr KLV JLV sb s → (∀ w, w ∈ ws → sb.2.2.2 w = 7) → CWs p s L Lc V → L3c q = ks ++ ws →
    Fr KLV JLV sb s' ∧ CWs p s' L L' (upL V q (V q ++ dthC sb ws)) ∧ L3' q = ks ++ kpC sb ws ∧ ∀ r, r ≠ q → L' r = Lc r ∧ L3' r = L3c r
  | [], ks, Lc, L3c, s, L', L3', s', V, h, F, hw, hC, h3 => by
    obtain ⟨rfl, rfl, rfl⟩ := h
    refine ⟨F, hC.cg (fun r _ _ => ?_), h3, fun r _ => ⟨rfl, rfl⟩⟩
    by_cases e : r = q
    · subst e; rw [upL_s]; exact List.append_nil _
    · exact upL_n e
  | w :: ws, ks, Lc, L3c, s, L', L3', s', V, h, F, hw, hC, h3 => by
    obtain ⟨n, hn, h⟩ := h
    have w7 := hw w List.mem_cons_self
    have wz : sb.2.2.2 w ≠ 0 := by rw [w7]; decide
    have FL1 := F.fl KLV_lt
    rw [(FL1.2 70003 w 0 wz (by decide)).2] at hn
    have nz : sb.2.2.2 n ≠ 0 := by rw [hwf _ _ _ _ hn (by decide)]; decide
    rw [(FL1.2 30200 n 0 nz (by decide)).1] at h
    by_cases c : sb.1 30200 n 0 = 0
    · rw [if_pos c] at h
      have hd : ddW sb w = false := by unfold ddW; rw [hn]; simp [c]
      obtain ⟨r1, r2, r3, r4⟩ := ewP_e hwf ws (ks ++ [w]) Lc L3c s L' L3' s' V h F (fun y hy => hw y (List.mem_cons_of_mem _ hy)) hC (by rw [h3]; simp)
      refine ⟨r1, r2.cg (fun r _ _ => ?_), ?_, r4⟩
      · unfold dthC; rw [List.filter_cons, hd]; rfl
      · rw [r3]; unfold kpC; rw [List.filter_cons, hd]; simp
    · rw [if_neg c] at h
      obtain ⟨s2, q', s3, AR1, AR3, e1, l3, q0, qe, e2, l1, h⟩ := h
      have hd : ddW sb w = true := by unfold ddW; rw [hn]; simp [c]
      have F2 : Fr KLV JLV s s2 := (Fr.k e1).weak (fun c hc => by simp only [KLV, Bool.or_eq_false_iff] at hc ⊢; exact ⟨hc.1.2, hc.2⟩) (fun j hj => by simp only [JLV, Bool.or_eq_true] at hj ⊢; exact Or.inr hj)
      have F3 : Fr KLV JLV s2 s3 := (Fr.w1 q0 e2).weak (fun c hc => by simp only [KLV, KL1, Bool.or_eq_false_iff] at hc ⊢; exact hc.1.1) (fun j hj => by simp only [JLV, JW, Bool.or_eq_true] at hj ⊢; exact Or.inl hj)
      have w2 : s2.2.2.2 w ≠ 0 := by rw [F2.1 w (by rw [FL1.1 w wz]; exact wz), FL1.1 w wz]; exact wz
      have wq : w ≠ q' := fun e => w2 (by rw [e]; exact q0)
      have ec : (sN s2 q' 5).1 70100 w 0 = sb.1 70100 w 0 := by
        show (if w = q' then 0 else s2.1 70100 w 0) = _
        rw [if_neg wq, ((F.tr F2).fl KLV_lt |>.2 70100 w 0 wz (by decide)).1]
      rw [ec] at e2
      obtain ⟨r1, r2, r3, r4⟩ := ewP_e hwf ws ks _ _ s3 L' L3' s' _ h ((F.tr F2).tr F3) (fun y hy => hw y (List.mem_cons_of_mem _ hy)) ((hC.fl (F2.fl KLV_lt)).add (j := q) q0 e2) upL_s
      refine ⟨r1, r2.cg (fun r _ _ => ?_), ?_, fun r hr => ⟨(r4 r hr).1.trans (upL_n hr), (r4 r hr).2.trans (upL_n hr)⟩⟩
      · by_cases e : r = q
        · subst e
          rw [upL_s, upL_s, upL_s]
          unfold dthC; rw [List.filter_cons, hd]; simp
        · rw [upL_n e, upL_n e, upL_n e]
      · rw [r3]; unfold kpC; rw [List.filter_cons, hd]; simp
def V2C (p : Nat) (s : Sg) (V : Nat → List (Int32 × Int32)) (L3 : Nat → List Nat) (i r : Nat) : List (Int32 × Int32) := V r ++ if r < i ∧ r ≠ p then dthC s (L3 r) else []
theorem dwP_e {L3 : Nat → List Nat} (hwf : WF sb) (h7 : ∀ r w, r < 4 → r ≠ p → w ∈ L3 r → sb.2.2.2 w = 7) : ∀ (k i : Nat) (Lc L3c : Nat → List Nat) (s : Sg) (L' L3' : Nat → List Nat) (s' : Sg), i + k = 4 → dwP E D k i Lc L3c s L' L3' s' → Fr KLV JLV sb s → CWs p s L Lc (V2C p sb V L3 i) → Lc p = [] → L3c p = [] → (∀ r, r < 4 → r ≠ p → L3c r = if r < i then kpC sb (L3 r) else L3 r) →
    Fr KLV JLV sb s' ∧ CWs p s' L L' (V2C p sb V L3 4) ∧ L' p = [] ∧ L3' p = [] ∧ ∀ r, r < 4 → r ≠ p → L3' r = kpC sb (L3 r)
  | 0, i, Lc, L3c, s, L', L3', s', hi, h, F, hC, h1, h2, h3 => by
    obtain ⟨rfl, rfl, rfl⟩ := h
    rw [show i = 4 from by omega] at hC h3
    exact ⟨F, hC, h1, h2, fun r hr hrp => by rw [h3 r hr hrp, if_pos hr]⟩
  | k + 1, i, Lc, L3c, s, L', L3', s', hi, h, F, hC, h1, h2, h3 => by
    obtain ⟨La, Lb, s2, he, h⟩ := h
    by_cases c : i = p
    · rw [c, h2] at he
      obtain ⟨rfl, rfl, rfl⟩ := he
      refine dwP_e hwf h7 k (i + 1) _ _ _ _ _ _ (by omega) h F (hC.cg (fun r _ hrp => ?_)) h1 h2 (fun r hr hrp => ?_)
      · unfold V2C
        by_cases y : r < i ∧ r ≠ p
        · rw [if_pos y, if_pos ⟨by omega, y.2⟩]
        · rw [if_neg y, if_neg (fun y' => y ⟨by omega, y'.2⟩)]
      · rw [h3 r hr hrp]
        by_cases y : r < i
        · rw [if_pos y, if_pos (by omega)]
        · rw [if_neg y, if_neg (by omega)]
    · have e3 := h3 i (by omega) c
      rw [if_neg (by omega)] at e3
      obtain ⟨r1, r2, r3, r4⟩ := ewP_e hwf _ [] _ _ _ _ _ _ _ he F (fun w hw => h7 i w (by omega) c (by rw [← e3]; exact hw)) hC rfl
      rw [e3] at r2 r3
      refine dwP_e hwf h7 k (i + 1) _ _ _ _ _ _ (by omega) h r1 (r2.cg (fun r _ hrp => ?_)) (by rw [(r4 p (Ne.symm c)).1]; exact h1) (by rw [(r4 p (Ne.symm c)).2]; exact h2) (fun r hr hrp => ?_)
      · by_cases e : r = i
        · subst e
          rw [upL_s]
          unfold V2C
          rw [if_pos ⟨by omega, hrp⟩, if_neg (by omega), List.append_nil]
        · rw [upL_n e]
          unfold V2C
          by_cases y : r < i ∧ r ≠ p
          · rw [if_pos y, if_pos ⟨by omega, y.2⟩]
          · rw [if_neg y, if_neg (fun y' => y ⟨by omega, y'.2⟩)]
      · by_cases e : r = i
        · subst e
          rw [if_pos (by omega), r3]; rfl
        · rw [(r4 r e).2, h3 r hr hrp]
          by_cases y : r < i
          · rw [if_pos y, if_pos (by omega)]
          · rw [if_neg y, if_neg (by omega)]
end DIC
