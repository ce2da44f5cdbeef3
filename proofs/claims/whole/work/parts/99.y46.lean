/-! die, as the model has it: rows of works, watches -/
section DIM
variable {A : Nat → Nat} {m p : Nat} {s0 τ : Sg} {ln : Nat → Nat} {V : Nat → List (Int32 × Int32)}
def row5 (τ : Sg) (A : Nat → Nat) (b : Nat) (k c : Int32) : Prop := τ.1 730000 (A 22) b = k ∧ τ.1 730000 (A 22) (b + 1) = -1 ∧ τ.1 730000 (A 22) (b + 2) = -1 ∧ τ.1 730000 (A 22) (b + 3) = -1 ∧ τ.1 730000 (A 22) (b + 4) = c
/-- ln old works, then those of V -/
def RWS (A : Nat → Nat) (s0 : Sg) (ln : Nat → Nat) (V : Nat → List (Int32 × Int32)) (τ : Sg) : Prop :=
  (∀ r, r < 4 → τ.1 720000 (A 21) r = nI (ln r + (V r).length)) ∧
  (∀ r i, r < 4 → i < 6 * ln r → τ.1 730000 (A 22) (384 * r + i) = s0.1 730000 (A 22) (384 * r + i)) ∧
  (∀ r i k c, r < 4 → (V r)[i]? = some (k, c) → row5 τ A (384 * r + 6 * (ln r + i)) k c)
theorem RWS.cg {V' : Nat → List (Int32 × Int32)} (h : RWS A s0 ln V τ) (e : ∀ r, r < 4 → V' r = V r) : RWS A s0 ln V' τ :=
  ⟨fun r hr => by rw [e r hr]; exact h.1 r hr, h.2.1, fun r i k c hr hi => h.2.2 r i k c hr (by rw [← e r hr]; exact hi)⟩
theorem RWS.st {τ' : Sg} (h : RWS A s0 ln V τ) (e : ∀ i, τ'.1 720000 (A 21) i = τ.1 720000 (A 21) i) (e2 : ∀ i, τ'.1 730000 (A 22) i = τ.1 730000 (A 22) i) : RWS A s0 ln V τ' := by
  refine ⟨fun r hr => by rw [e]; exact h.1 r hr, fun r i hr hi => by rw [e2]; exact h.2.1 r i hr hi, fun r i k c hr hi => ?_⟩
  unfold row5
  rw [e2, e2, e2, e2, e2]
  exact h.2.2 r i k c hr hi
theorem cm_x {q w j : Nat} {k b y s c : Int32} (h : j < 384 * q + 6 * w ∨ 384 * q + 6 * w + 6 ≤ j) : (cmS τ A q w k b y s c).1 730000 (A 22) j = τ.1 730000 (A 22) j := by
  unfold cmS
  rw [rII (by decide), rIx (by omega), rIx (by omega), rIx (by omega), rIx (by omega), rIx (by omega), rIx (by omega)]
theorem cm_w2 {q w r : Nat} {k b y s c : Int32} : (cmS τ A q w k b y s c).1 720000 (A 21) r = if r = q then nI (w + 1) else τ.1 720000 (A 21) r := by
  by_cases e : r = q
  · subst e; rw [if_pos rfl]; exact rIs
  · rw [if_neg e]
    unfold cmS
    rw [rIx e, rII (by decide), rII (by decide), rII (by decide), rII (by decide), rII (by decide), rII (by decide)]
theorem cm_o {q w c' a x : Nat} {k b y s c : Int32} (h1 : c' ≠ 720000) (h2 : c' ≠ 730000) : (cmS τ A q w k b y s c).1 c' a x = τ.1 c' a x := by
  unfold cmS
  rw [rII h1, rII h2, rII h2, rII h2, rII h2, rII h2, rII h2]
theorem cm_2 {q w : Nat} {k b y s c : Int32} : (cmS τ A q w k b y s c).2 = τ.2 := rfl
theorem row5.mv {b q w : Nat} {k c k' b' y s' c' : Int32} (h : row5 τ A b k c) (hb : b + 6 ≤ 384 * q + 6 * w ∨ 384 * q + 6 * w + 6 ≤ b) : row5 (cmS τ A q w k' b' y s' c') A b k c := by
  unfold row5
  rw [cm_x (by omega), cm_x (by omega), cm_x (by omega), cm_x (by omega), cm_x (by omega)]
  exact h
theorem app_gp {L : List (Int32 × Int32)} {q w : Int32 × Int32} {i : Nat} (h : (L ++ [q])[i]? = some w) : (i < L.length ∧ L[i]? = some w) ∨ (i = L.length ∧ w = q) := by
  by_cases c : i < L.length
  · rw [List.getElem?_append_left c] at h; exact Or.inl ⟨c, h⟩
  · rw [List.getElem?_append_right (by omega)] at h
    have : i - L.length = 0 := by
      by_cases z : i - L.length = 0
      · exact z
      · obtain ⟨y, hy⟩ : ∃ y, i - L.length = y + 1 := ⟨i - L.length - 1, by omega⟩
        rw [hy] at h; cases h
    rw [this] at h
    exact Or.inr ⟨by omega, (Option.some.inj h).symm⟩
theorem RWS.add {q : Nat} {k c : Int32} (h : RWS A s0 ln V τ) (hq : q < 4) (hl : ∀ r, r < 4 → ln r + (V r).length ≤ 64) (hlq : ln q + (V q).length < 64) : RWS A s0 ln (upL V q (V q ++ [(k, c)])) (cmS τ A q (ln q + (V q).length) k (-1) (-1) (-1) c) := by
  refine ⟨fun r hr => ?_, fun r i hr hi => ?_, fun r i k' c' hr hi => ?_⟩
  · rw [cm_w2]
    by_cases e : r = q
    · subst e; rw [if_pos rfl, upL_s, List.length_append]; rfl
    · rw [if_neg e, upL_n e]; exact h.1 r hr
  · have h1 := hl r hr
    rw [cm_x (by
      by_cases e : r = q
      · subst e; omega
      · omega)]
    exact h.2.1 r i hr hi
  · by_cases e : r = q
    · subst e
      rw [upL_s] at hi
      rcases app_gp hi with ⟨h1, h2⟩ | ⟨rfl, h2⟩
      · exact (h.2.2 r i k' c' hr h2).mv (by omega)
      · cases h2
        exact ⟨cm_r.1, cm_r.2.1, cm_r.2.2.1, cm_r.2.2.2.1, cm_r.2.2.2.2.1⟩
    · rw [upL_n e] at hi
      have h1 := hl r hr
      have h2 := (List.getElem?_eq_some_iff.mp hi).1
      exact (h.2.2 r i k' c' hr hi).mv (by omega)
theorem itF_cg {α : Type} {f f' : Nat → α → α} : ∀ (k i : Nat) (a : α), (∀ j b, i ≤ j → j < i + k → f j b = f' j b) → itF f k i a = itF f' k i a
  | 0, _, _, _ => rfl
  | k + 1, i, a, h => by
    rw [itF_succ, itF_succ, h i a (Nat.le_refl _) (by omega)]
    exact itF_cg k (i + 1) _ (fun j b h1 h2 => h j b (by omega) (by omega))
def oth (l : List Nat) (s0 τ : Sg) : Prop := τ.2 = s0.2 ∧ ∀ c a x, c ∉ l → τ.1 c a x = s0.1 c a x
theorem oth.cm {l : List Nat} {q w : Nat} {k b y s c : Int32} (h : oth l s0 τ) (h1 : 720000 ∈ l) (h2 : 730000 ∈ l) : oth l s0 (cmS τ A q w k b y s c) :=
  ⟨h.1, fun c' a x hc => (cm_o (fun e => hc (by rw [e]; exact h1)) (fun e => hc (by rw [e]; exact h2))).trans (h.2 c' a x hc)⟩
theorem oth.i {l : List Nat} {c a x : Nat} {v : Int32} (h : oth l s0 τ) (hc : c ∈ l) : oth l s0 (sI τ c a x v) :=
  ⟨h.1, fun c' a' x' hn => (rII (fun e => hn (by rw [e]; exact hc))).trans (h.2 c' a' x' hn)⟩
theorem wfR_c {q w n : Nat} (h : oth [720000, 730000] s0 τ) (hr : ∀ i, i < 6 * w → τ.1 730000 (A 22) (384 * p + i) = s0.1 730000 (A 22) (384 * p + i)) : wfR τ A q p w n = wfR s0 A q p w n := by
  have e1 : itF (wf1 τ A q p) w 0 0 = itF (wf1 s0 A q p) w 0 0 := itF_cg w 0 0 (fun j b _ hj => by
    have a1 := hr (6 * j) (by omega)
    have a2 := hr (6 * j + 3) (by omega)
    have a3 := hr (6 * j + 5) (by omega)
    rw [← Nat.add_assoc] at a2 a3
    unfold wf1
    rw [a1, a2, a3, h.2 520000 _ _ (by decide)])
  unfold wfR
  rw [e1, h.2 510000 _ _ (by decide), itF_cg n 0 _ (fun j b _ _ => show wf2 τ A q p j b = wf2 s0 A q p j b by unfold wf2; rw [h.2 750000 _ _ (by decide), h.2 760000 _ _ (by decide), h.2 520000 _ _ (by decide)])]
def V1 (p : Nat) (fl : Nat → Bool) (i r : Nat) : List (Int32 × Int32) := if r < i ∧ r ≠ p ∧ fl r = true then [(5, 0)] else []
theorem V1_le {fl : Nat → Bool} {i r : Nat} : (V1 p fl i r).length ≤ 1 := by unfold V1; split <;> simp
def IVd (A : Nat → Nat) (s0 : Sg) (ln : Nat → Nat) (p : Nat) (fl : Nat → Bool) (i : Nat) (τ : Sg) : Prop := oth [720000, 730000] s0 τ ∧ RWS A s0 ln (V1 p fl i) τ
theorem IVd.step {n : Nat} {fl : Nat → Bool} (hp : p < 4) (hl : ∀ r, r < 4 → ln r ≤ 57) (hfl : ∀ r, r < 4 → r ≠ p → (fl r = true ↔ ¬ wfR s0 A r p (ln p) n = 0)) (hn : s0.1 740000 (A 23) p = nI n) {i : Nat} (hi : i < 4) (h : IVd A s0 ln p fl i τ) : IVd A s0 ln p fl (i + 1) (di1 A p (ln p) n i τ) ∧ τ.1 720000 (A 21) p = nI (ln p) ∧ τ.1 740000 (A 23) p = nI n ∧ ∃ W, τ.1 720000 (A 21) i = nI W ∧ W < 64 := by
  obtain ⟨ho, hr⟩ := h
  have hp0 : V1 p fl i p = [] := if_neg (fun y => y.2.1 rfl)
  have hi0 : V1 p fl i i = [] := if_neg (fun y => by omega)
  have ep : τ.1 720000 (A 21) p = nI (ln p) := by
    have := hr.1 p hp
    rw [hp0] at this; exact this
  have ei : τ.1 720000 (A 21) i = nI (ln i) := by
    have := hr.1 i hi
    rw [hi0] at this; exact this
  refine ⟨?_, ep, by rw [ho.2 740000 _ _ (by decide)]; exact hn, ln i, ei, by have := hl i hi; omega⟩
  unfold di1
  have same : (i = p ∨ ¬ fl i = true) → IVd A s0 ln p fl (i + 1) τ := fun z => ⟨ho, hr.cg (fun r _ => by
    unfold V1
    by_cases y : r < i ∧ r ≠ p ∧ fl r = true
    · rw [if_pos y, if_pos ⟨by omega, y.2⟩]
    · rw [if_neg y, if_neg (fun y' => ?_)]
      have : r = i := by
        by_cases e : r = i
        · exact e
        · exact absurd ⟨by omega, y'.2⟩ y
      subst this
      rcases z with z | z
      · exact y'.2.1 z
      · exact z y'.2.2)⟩
  by_cases c : i = p
  · rw [if_pos c]; exact same (Or.inl c)
  · rw [if_neg c, wfR_c ho (fun j hj => hr.2.1 p j hp hj)]
    by_cases c2 : wfR s0 A i p (ln p) n = 0
    · rw [if_pos c2]; exact same (Or.inr (fun y => (hfl i hi c).mp y c2))
    · rw [if_neg c2, ei, nI_clamp (by have := hl i hi; omega)]
      have h9 := hr.add (k := 5) (c := 0) hi (fun r hr' => by have := hl r hr'; have := V1_le (p := p) (fl := fl) (i := i) (r := r); omega) (by have := hl i hi; rw [hi0]; show ln i + 0 < 64; omega)
      rw [hi0] at h9
      refine ⟨ho.cm (by decide) (by decide), h9.cg (fun r hr' => ?_)⟩
      by_cases e : r = i
      · subst e
        rw [upL_s]
        exact if_pos ⟨by omega, c, (hfl r hi c).mpr c2⟩
      · rw [upL_n e]
        unfold V1
        by_cases y : r < i ∧ r ≠ p ∧ fl r = true
        · rw [if_pos y, if_pos ⟨by omega, y.2⟩]
        · rw [if_neg y, if_neg (fun y' => y ⟨by omega, y'.2⟩)]
theorem IVd.end {n : Nat} {fl : Nat → Bool} (hp : p < 4) (hl : ∀ r, r < 4 → ln r ≤ 57) (hfl : ∀ r, r < 4 → r ≠ p → (fl r = true ↔ ¬ wfR s0 A r p (ln p) n = 0)) (hn : s0.1 740000 (A 23) p = nI n) (h : IVd A s0 ln p fl 0 τ) : IVd A s0 ln p fl 4 (itF (di1 A p (ln p) n) 4 0 τ) :=
  itF_ind (IVd A s0 ln p fl) 4 0 τ h (fun j b _ hj hb => (IVd.step hp hl hfl hn (by omega) hb).1)
/-- the watches: those of p's objects, and the others -/
def tbW (p : Nat) (l : Int32) (x : Int32 × Int32) : Bool := decide (nI (pOf x.1) = nI p ∧ x.1 / 40 = l)
def dtW (p : Nat) (l : Int32) (L : List (Int32 × Int32)) : List (Int32 × Int32) := (L.filter (tbW p l)).map (fun x => (4, x.2))
def kpW (p : Nat) (l : Int32) (L : List (Int32 × Int32)) : List (Int32 × Int32) := L.filter (fun x => !(tbW p l x))
theorem dk_len {l : Int32} : ∀ (L : List (Int32 × Int32)), (dtW p l L).length + (kpW p l L).length = L.length
  | [] => rfl
  | x :: t => by
    have ih := dk_len (l := l) t
    unfold dtW kpW at ih ⊢
    rw [List.filter_cons, List.filter_cons]
    cases tbW p l x <;> simp at ih ⊢ <;> omega
def tl4 : List Nat := [720000, 730000, 790000, 800000]
def TLP (A : Nat → Nat) (s0 τ : Sg) (ln : Nat → Nat) (V : Nat → List (Int32 × Int32)) (q p : Nat) (wl : List (Int32 × Int32)) (k : Nat) (se : Sg × Nat) : Prop :=
  oth tl4 τ se.1 ∧ RWS A s0 ln (upL V q (V q ++ dtW p (τ.1 520000 (A 1) p) (wl.take k))) se.1 ∧ se.2 = (kpW p (τ.1 520000 (A 1) p) (wl.take k)).length ∧
  (∀ j x, (kpW p (τ.1 520000 (A 1) p) (wl.take k))[j]? = some x → se.1.1 790000 (A 28) (8 * q + j) = x.1 ∧ se.1.1 800000 (A 29) (8 * q + j) = x.2) ∧
  (∀ j, j < 8 * q ∨ 8 * q + k ≤ j → se.1.1 790000 (A 28) j = τ.1 790000 (A 28) j ∧ se.1.1 800000 (A 29) j = τ.1 800000 (A 29) j)
theorem TLP.step {q : Nat} {wl : List (Int32 × Int32)} (hq : q < 4) (hl : ∀ r, r < 4 → ln r + (V r).length ≤ 64) (hlq : ln q + (V q).length + wl.length ≤ 64) (hw : ∀ j x, wl[j]? = some x → τ.1 790000 (A 28) (8 * q + j) = x.1 ∧ τ.1 800000 (A 29) (8 * q + j) = x.2) {k : Nat} (hk : k < wl.length) {se : Sg × Nat} (h : TLP A s0 τ ln V q p wl k se) : TLP A s0 τ ln V q p wl (k + 1) (tlF A q p k se) := by
  obtain ⟨s, e⟩ := se
  obtain ⟨ho, hr, he, hj, hx⟩ := h
  dsimp only at ho hr he hj hx
  obtain ⟨x, hx1⟩ : ∃ x, wl[k]? = some x := ⟨_, List.getElem?_eq_getElem hk⟩
  obtain ⟨w1, w2⟩ := hw k x hx1
  obtain ⟨y1, y2⟩ := hx (8 * q + k) (Or.inr (Nat.le_refl _))
  have et : wl.take (k + 1) = wl.take k ++ [x] := by rw [List.take_add_one, hx1]; rfl
  have e52 := ho.2 520000 (A 1) p (by decide)
  have dl := dk_len (p := p) (l := τ.1 520000 (A 1) p) (wl.take k)
  have tl : (wl.take k).length = k := by rw [List.length_take]; omega
  have kp : tbW p (τ.1 520000 (A 1) p) x = false → TLP A s0 τ ln V q p wl (k + 1) (sI (sI s 790000 (A 28) (8 * q + e) x.1) 800000 (A 29) (8 * q + e) x.2, e + 1) := by
    intro ht
    have ed : dtW p (τ.1 520000 (A 1) p) (wl.take (k + 1)) = dtW p (τ.1 520000 (A 1) p) (wl.take k) := by
      unfold dtW; rw [et, List.filter_append, List.filter_cons, ht]; simp
    have ek : kpW p (τ.1 520000 (A 1) p) (wl.take (k + 1)) = kpW p (τ.1 520000 (A 1) p) (wl.take k) ++ [x] := by
      unfold kpW; rw [et, List.filter_append, List.filter_cons, ht]; simp
    refine ⟨(ho.i (by decide)).i (by decide), ?_, ?_, ?_, ?_⟩
    · rw [ed]
      exact hr.st (fun i => by rw [rII (by decide), rII (by decide)]) (fun i => by rw [rII (by decide), rII (by decide)])
    · rw [ek, List.length_append]; show e + 1 = _; rw [he]; rfl
    · intro j z hz
      rw [ek] at hz
      show (sI (sI s 790000 (A 28) (8 * q + e) x.1) 800000 (A 29) (8 * q + e) x.2).1 790000 (A 28) (8 * q + j) = z.1 ∧ (sI (sI s 790000 (A 28) (8 * q + e) x.1) 800000 (A 29) (8 * q + e) x.2).1 800000 (A 29) (8 * q + j) = z.2
      rw [rII (by decide)]
      rcases app_gp hz with ⟨h1, h2⟩ | ⟨h1, h2⟩
      · rw [rIx (by omega), rIx (by omega), rII (by decide)]; exact hj j z h2
      · rw [h1, h2, ← he]; exact ⟨rIs, rIs⟩
    · intro j hj'
      show (sI (sI s 790000 (A 28) (8 * q + e) x.1) 800000 (A 29) (8 * q + e) x.2).1 790000 (A 28) j = _ ∧ (sI (sI s 790000 (A 28) (8 * q + e) x.1) 800000 (A 29) (8 * q + e) x.2).1 800000 (A 29) j = _
      rw [rII (by decide), rIx (by omega), rIx (by omega), rII (by decide)]
      exact hx j (by omega)
  unfold tlF
  dsimp only
  rw [y1, y2, w1, w2, e52]
  by_cases c1 : nI (pOf x.1) = nI p
  · rw [if_pos c1]
    by_cases c2 : x.1 / 40 = τ.1 520000 (A 1) p
    · rw [if_pos c2]
      have ht : tbW p (τ.1 520000 (A 1) p) x = true := decide_eq_true ⟨c1, c2⟩
      have ed : dtW p (τ.1 520000 (A 1) p) (wl.take (k + 1)) = dtW p (τ.1 520000 (A 1) p) (wl.take k) ++ [(4, x.2)] := by
        unfold dtW; rw [et, List.filter_append, List.filter_cons, ht]; simp
      have ek : kpW p (τ.1 520000 (A 1) p) (wl.take (k + 1)) = kpW p (τ.1 520000 (A 1) p) (wl.take k) := by
        unfold kpW; rw [et, List.filter_append, List.filter_cons, ht]; simp
      have ew := hr.1 q hq
      have el : ln q + (upL V q (V q ++ dtW p (τ.1 520000 (A 1) p) (wl.take k)) q).length < 64 := by rw [upL_s, List.length_append]; omega
      rw [ew, nI_clamp (by omega)]
      have h9 := hr.add (k := 4) (c := x.2) hq (fun r hr' => by
        by_cases z : r = q
        · rw [z]; omega
        · rw [upL_n z]; exact hl r hr') el
      refine ⟨ho.cm (by decide) (by decide), h9.cg (fun r hr' => ?_), by rw [ek]; exact he, fun j z hz => ?_, fun j hj' => ?_⟩
      · by_cases z : r = q
        · subst z; rw [upL_s, upL_s, upL_s, ed, List.append_assoc]
        · rw [upL_n z, upL_n z, upL_n z]
      · rw [ek] at hz
        show (cmS s A q _ _ _ _ _ _).1 790000 (A 28) (8 * q + j) = _ ∧ (cmS s A q _ _ _ _ _ _).1 800000 (A 29) (8 * q + j) = _
        rw [cm_o (by decide) (by decide), cm_o (by decide) (by decide)]
        exact hj j z hz
      · show (cmS s A q _ _ _ _ _ _).1 790000 (A 28) j = _ ∧ (cmS s A q _ _ _ _ _ _).1 800000 (A 29) j = _
        rw [cm_o (by decide) (by decide), cm_o (by decide) (by decide)]
        exact hx j (by omega)
    · rw [if_neg c2]
      exact kp (decide_eq_false (fun y => c2 y.2))
  · rw [if_neg c1]
    exact kp (decide_eq_false (fun y => c1 y.1))
def tl5 : List Nat := [720000, 730000, 780000, 790000, 800000]
theorem tel_e {q : Nat} {wl : List (Int32 × Int32)} (hq : q < 4) (hl : ∀ r, r < 4 → ln r + (V r).length ≤ 64) (hlq : ln q + (V q).length + wl.length ≤ 64) (hw : ∀ j x, wl[j]? = some x → τ.1 790000 (A 28) (8 * q + j) = x.1 ∧ τ.1 800000 (A 29) (8 * q + j) = x.2) (hR : RWS A s0 ln V τ) (h8 : wl.length ≤ 8) :
    oth tl5 τ (telS τ A q p wl.length) ∧ RWS A s0 ln (upL V q (V q ++ dtW p (τ.1 520000 (A 1) p) wl)) (telS τ A q p wl.length) ∧ (telS τ A q p wl.length).1 780000 (A 27) q = nI (kpW p (τ.1 520000 (A 1) p) wl).length ∧ (∀ r, r ≠ q → (telS τ A q p wl.length).1 780000 (A 27) r = τ.1 780000 (A 27) r) ∧
    (∀ j x, (kpW p (τ.1 520000 (A 1) p) wl)[j]? = some x → (telS τ A q p wl.length).1 790000 (A 28) (8 * q + j) = x.1 ∧ (telS τ A q p wl.length).1 800000 (A 29) (8 * q + j) = x.2) ∧
    (∀ j, j < 8 * q ∨ 8 * q + 8 ≤ j → (telS τ A q p wl.length).1 790000 (A 28) j = τ.1 790000 (A 28) j ∧ (telS τ A q p wl.length).1 800000 (A 29) j = τ.1 800000 (A 29) j) := by
  have h0 : TLP A s0 τ ln V q p wl 0 (τ, 0) := ⟨⟨rfl, fun _ _ _ _ => rfl⟩, hR.cg (fun r _ => by
      by_cases e : r = q
      · subst e; rw [upL_s, List.take_zero]; exact List.append_nil _
      · exact upL_n e), rfl, (fun j x hx => by rw [List.take_zero] at hx; cases hx), fun j _ => ⟨rfl, rfl⟩⟩
  have h := itF_ind (TLP A s0 τ ln V q p wl) wl.length 0 (τ, 0) h0 (fun j b _ hj hb => TLP.step hq hl hlq hw (by omega) hb)
  rw [Nat.zero_add] at h
  obtain ⟨ho, hr, he, hj, hx⟩ := h
  rw [List.take_length] at hr he hj
  have o5 : oth tl5 τ (itF (tlF A q p) wl.length 0 (τ, 0)).1 := ⟨ho.1, fun c a x hc => ho.2 c a x (fun y => hc (by revert y; unfold tl4 tl5; simp only [List.mem_cons, List.not_mem_nil, or_false]; omega))⟩
  unfold telS
  rw [he]
  refine ⟨o5.i (by decide), hr.st (fun i => rII (by decide)) (fun i => rII (by decide)), rIs, fun r hr' => ?_, fun j x h9 => ?_, fun j hj' => ?_⟩
  · rw [rIx hr']; exact ho.2 780000 _ _ (by decide)
  · rw [rII (by decide), rII (by decide)]; exact hj j x h9
  · rw [rII (by decide), rII (by decide)]; exact hx j (by omega)
/-- all watchers told, up to i -/
def V2 (p : Nat) (l : Int32) (V : Nat → List (Int32 × Int32)) (wl : Nat → List (Int32 × Int32)) (i r : Nat) : List (Int32 × Int32) := V r ++ if r < i ∧ r ≠ p then dtW p l (wl r) else []
def JVd (A : Nat → Nat) (s0 : Sg) (ln : Nat → Nat) (p : Nat) (V wl : Nat → List (Int32 × Int32)) (i : Nat) (τ : Sg) : Prop := oth tl5 s0 τ ∧ RWS A s0 ln (V2 p (s0.1 520000 (A 1) p) V wl i) τ ∧
  (∀ r, r < 4 → r < i → r ≠ p → ¬ s0.1 510000 (A 0) r = 0 → τ.1 780000 (A 27) r = nI (kpW p (s0.1 520000 (A 1) p) (wl r)).length ∧ ∀ j x, (kpW p (s0.1 520000 (A 1) p) (wl r))[j]? = some x → τ.1 790000 (A 28) (8 * r + j) = x.1 ∧ τ.1 800000 (A 29) (8 * r + j) = x.2) ∧
  (∀ r, r < 4 → i ≤ r → τ.1 780000 (A 27) r = s0.1 780000 (A 27) r ∧ ∀ j, j < 8 → τ.1 790000 (A 28) (8 * r + j) = s0.1 790000 (A 28) (8 * r + j) ∧ τ.1 800000 (A 29) (8 * r + j) = s0.1 800000 (A 29) (8 * r + j))
theorem JVd.step {wl : Nat → List (Int32 × Int32)} (hp : p < 4) (hl : ∀ r, r < 4 → ln r + (V r).length + (wl r).length ≤ 64) (h8 : ∀ r, r < 4 → (wl r).length ≤ 8) (h7 : ∀ r, r < 4 → r ≠ p → ¬ s0.1 510000 (A 0) r = 0 → s0.1 780000 (A 27) r = nI (wl r).length) (hd : ∀ r, r < 4 → r ≠ p → s0.1 510000 (A 0) r = 0 → wl r = [])
    (hw : ∀ r j x, r < 4 → (wl r)[j]? = some x → s0.1 790000 (A 28) (8 * r + j) = x.1 ∧ s0.1 800000 (A 29) (8 * r + j) = x.2 ∧ ¬ x.1 < 0) {i : Nat} (hi : i < 4) (h : JVd A s0 ln p V wl i τ) : JVd A s0 ln p V wl (i + 1) (di2 A p i τ) ∧ (¬ i = p → ¬ τ.1 510000 (A 0) i = 0 → ∃ W v, τ.1 720000 (A 21) i = nI W ∧ τ.1 780000 (A 27) i = nI v ∧ v ≤ 8 ∧ W + v ≤ 64 ∧ ∀ j, j < v → ¬ τ.1 790000 (A 28) (8 * i + j) < 0) := by
  obtain ⟨ho, hr, h1, h2⟩ := h
  have e51 : ∀ r, τ.1 510000 (A 0) r = s0.1 510000 (A 0) r := fun r => ho.2 510000 _ _ (by decide)
  have e52 : τ.1 520000 (A 1) p = s0.1 520000 (A 1) p := ho.2 520000 _ _ (by decide)
  have ei : V2 p (s0.1 520000 (A 1) p) V wl i i = V i := by unfold V2; rw [if_neg (by omega), List.append_nil]
  have same : (i = p ∨ wl i = []) → RWS A s0 ln (V2 p (s0.1 520000 (A 1) p) V wl (i + 1)) τ := fun z => hr.cg (fun r _ => by
    unfold V2
    by_cases y : r < i ∧ r ≠ p
    · rw [if_pos y, if_pos ⟨by omega, y.2⟩]
    · rw [if_neg y]
      by_cases y' : r < i + 1 ∧ r ≠ p
      · rw [if_pos y']
        have : r = i := by
          by_cases e : r = i
          · exact e
          · exact absurd ⟨by omega, y'.2⟩ y
        subst this
        rcases z with z | z
        · exact absurd z y'.2
        · rw [z]; rfl
      · rw [if_neg y'])
  refine ⟨?_, fun c1 c2 => ?_⟩
  · unfold di2
    by_cases c : i = p
    · rw [if_pos c]
      exact ⟨ho, same (Or.inl c), fun r hr' hri hrp ha => h1 r hr' (by omega) hrp ha, fun r hr' hri => h2 r hr' (by omega)⟩
    · rw [if_neg c]
      by_cases c2 : τ.1 510000 (A 0) i = 0
      · rw [if_pos c2]
        rw [e51] at c2
        exact ⟨ho, same (Or.inr (hd i hi c c2)), fun r hr' hri hrp ha => h1 r hr' (by
          by_cases e : r = i
          · subst e; exact absurd c2 ha
          · omega) hrp ha, fun r hr' hri => h2 r hr' (by omega)⟩
      · rw [if_neg c2]
        rw [e51] at c2
        have h8i := h8 i hi
        rw [(h2 i hi (Nat.le_refl _)).1, h7 i hi c c2, nI_clamp (by omega)]
        have hle : ∀ r, r < 4 → ln r + (V2 p (s0.1 520000 (A 1) p) V wl i r).length ≤ 64 := fun r hr' => by
          have h3 := hl r hr'
          unfold V2
          rw [List.length_append]
          have h4 := dk_len (p := p) (l := s0.1 520000 (A 1) p) (wl r)
          split
          · omega
          · show ln r + ((V r).length + 0) ≤ 64; omega
        obtain ⟨t1, t2, t3, t4, t5, t6⟩ := tel_e (p := p) (wl := wl i) hi hle (by rw [ei]; exact hl i hi) (fun j x hx => by
          obtain ⟨z1, z2, -⟩ := hw i j x hi hx
          have hj : j < 8 := by have := (List.getElem?_eq_some_iff.mp hx).1; omega
          obtain ⟨z3, z4⟩ := (h2 i hi (Nat.le_refl _)).2 j hj
          exact ⟨z3.trans z1, z4.trans z2⟩) hr h8i
        rw [ei, e52] at t2
        rw [e52] at t3 t5
        refine ⟨⟨t1.1.trans ho.1, fun c' a x hc => (t1.2 c' a x hc).trans (ho.2 c' a x hc)⟩, t2.cg (fun r hr' => ?_), fun r hr' hri hrp ha => ?_, fun r hr' hri => ?_⟩
        · by_cases e : r = i
          · subst e
            rw [upL_s]; unfold V2; rw [if_pos ⟨by omega, c⟩]
          · rw [upL_n e]
            unfold V2
            by_cases y : r < i ∧ r ≠ p
            · rw [if_pos y, if_pos ⟨by omega, y.2⟩]
            · rw [if_neg y, if_neg (fun y' => y ⟨by omega, y'.2⟩)]
        · by_cases e : r = i
          · subst e; exact ⟨t3, t5⟩
          · obtain ⟨z1, z2⟩ := h1 r hr' (by omega) hrp ha
            refine ⟨(t4 r e).trans z1, fun j x hx => ?_⟩
            have hj : j < 8 := by
              have h5 := (List.getElem?_eq_some_iff.mp hx).1
              have h6 := dk_len (p := p) (l := s0.1 520000 (A 1) p) (wl r)
              have := h8 r hr'
              omega
            obtain ⟨z3, z4⟩ := t6 (8 * r + j) (by omega)
            exact ⟨z3.trans (z2 j x hx).1, z4.trans (z2 j x hx).2⟩
        · obtain ⟨z1, z2⟩ := h2 r hr' (by omega)
          refine ⟨(t4 r (by omega)).trans z1, fun j hj => ?_⟩
          obtain ⟨z3, z4⟩ := t6 (8 * r + j) (by omega)
          exact ⟨z3.trans (z2 j hj).1, z4.trans (z2 j hj).2⟩
  · rw [e51] at c2
    have h8i := h8 i hi
    refine ⟨ln i + (V i).length, (wl i).length, ?_, ?_, h8i, hl i hi, fun j hj => ?_⟩
    · have := hr.1 i hi
      rw [ei] at this; exact this
    · rw [(h2 i hi (Nat.le_refl _)).1]; exact h7 i hi c1 c2
    · rw [((h2 i hi (Nat.le_refl _)).2 j (by omega)).1]
      obtain ⟨z1, -, z3⟩ := hw i j _ hi (List.getElem?_eq_getElem hj)
      rw [z1]; exact z3
end DIM
