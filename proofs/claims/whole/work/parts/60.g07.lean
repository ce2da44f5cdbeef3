section FRM
variable {E : FE} {g : Gh} {σ σ' : Sg} {K J : Nat → Bool} {n : Nat}
/-- a chain from f on -/
def chn (nx : Nat → Option Nat) : Option Nat → List Nat → Prop
  | f, [] => f = none
  | f, m :: t => f = some m ∧ chn nx (nx m) t
theorem chn.cong {nx nx' : Nat → Option Nat} : ∀ {l : List Nat} {f : Option Nat}, chn nx f l → (∀ m, m ∈ l → nx' m = nx m) → chn nx' f l
  | [], _, h, _ => h
  | m :: t, _, h, e => ⟨h.1, by rw [e m List.mem_cons_self]; exact chn.cong h.2 (fun x hx => e x (List.mem_cons_of_mem _ hx))⟩
/-- the live one-way messages for a -/
def ow (g : Gh) (σ : Sg) (o a c m : Nat) : Prop := c < 64 ∧ σ.2.1 150006 (g.D o 7) c = some m ∧ σ.1 60000 m 0 = 2 ∧ σ.2.1 60303 m 0 = some a
/-- the messages that wait at a node -/
def RQa (g : Gh) (o a : Nat) (σ : Sg) : Prop :=
  chn (fun m => σ.2.1 61106 m 0) (σ.2.1 30406 a 0) (g.Q a) ∧ σ.2.1 30506 a 0 = (g.Q a).getLast? ∧
  (∀ m, m ∈ g.Q a → ∃ c, ow g σ o a c m ∧ σ.1 610000 (g.A 10) (g.B m) = 1) ∧ (g.Q a).Pairwise (fun m m' => σ.1 670000 (g.A 16) (g.B m) < σ.1 670000 (g.A 16) (g.B m')) ∧
  (∀ c m, ow g σ o a c m → σ.1 610000 (g.A 10) (g.B m) = 1 → m ∈ g.Q a) ∧
  ((σ.1 30300 a 0 = 0 ∧ ∀ c m, ¬ ow g σ o a c m) ∨ (σ.1 30300 a 0 = 1 ∧ ∃ c m, ow g σ o a c m)) ∧
  (∀ c c' m m', ow g σ o a c m → ow g σ o a c' m' → ¬ σ.1 610000 (g.A 10) (g.B m) = 1 → ¬ σ.1 610000 (g.A 10) (g.B m') = 1 → m = m')
def RQ (g : Gh) (σ : Sg) : Prop := (∀ a o, σ.2.2.2 a = 3 → σ.1 30200 a 0 = 0 → o < 4 → σ.1 30000 a 0 = nI o → RQa g o a σ) ∧
  (∀ p c m, p < 4 → al g σ p → c < 64 → σ.2.1 150006 (g.D p 7) c = some m → σ.1 610000 (g.A 10) (g.B m) = 1 → σ.1 60000 m 0 = 2)
theorem ow.fr {o a c m : Nat} (ho : o < 4) (s : RS E g σ) (F : FrP g o K J σ σ') (k1 : K 150006 = false) (k2 : K 60000 = false) (k3 : K 60303 = false) : ow g σ' o a c m ↔ ow g σ o a c m := by
  unfold ow
  rw [(F.d s ho (by decide) (by decide) k1).2]
  constructor
  · rintro ⟨h1, h2, h3, h4⟩
    have hm := s.wf _ _ _ _ h2 (by decide)
    rw [(F.o s hm (by decide) (by decide) k2).1] at h3
    rw [(F.o s hm (by decide) (by decide) k3).2] at h4
    exact ⟨h1, h2, h3, h4⟩
  · rintro ⟨h1, h2, h3, h4⟩
    have hm := s.wf _ _ _ _ h2 (by decide)
    rw [(F.o s hm (by decide) (by decide) k2).1, (F.o s hm (by decide) (by decide) k3).2]
    exact ⟨h1, h2, h3, h4⟩
theorem RQa.fr {o a : Nat} (ha : σ.2.2.2 a = 3) (ho : o < 4) (h : RQa g o a σ) (s : RS E g σ) (hB : ∀ c m, c < 64 → σ.2.1 150006 (g.D o 7) c = some m → 64 * o ≤ g.B m ∧ g.B m < 64 * o + 64) (F : FrP g o K J σ σ') (hK : ([61106, 30406, 30506, 150006, 60000, 60303, 610000, 670000, 30300].all fun c => !K c) = true) : RQa g o a σ' := by
  simp only [List.all_cons, List.all_nil, Bool.and_true, Bool.and_eq_true, Bool.not_eq_true'] at hK
  obtain ⟨k1, k2, k3, k4, k5, k6, k7, k8, k9⟩ := hK
  obtain ⟨h1, h2, h3, h4, h5, h6, h7⟩ := h
  have w : ∀ {c m}, ow g σ' o a c m ↔ ow g σ o a c m := ow.fr ho s F k4 k5 k6
  have e1 : ∀ {c m}, ow g σ o a c m → σ'.1 610000 (g.A 10) (g.B m) = σ.1 610000 (g.A 10) (g.B m) := fun {c m} hm => by
    have := hB c m hm.1 hm.2.1
    exact F.a s (by decide) (by decide) k7 (by show g.B m / 64 = o; omega)
  have e2 : ∀ m, m ∈ g.Q a → σ'.1 670000 (g.A 16) (g.B m) = σ.1 670000 (g.A 16) (g.B m) := fun m hm => by
    obtain ⟨c, hc, -⟩ := h3 m hm
    have := hB c m hc.1 hc.2.1
    exact F.a s (by decide) (by decide) k8 (by show g.B m / 64 = o; omega)
  unfold RQa
  simp only [w]
  rw [(F.o s ha (by decide) (by decide) k2).2, (F.o s ha (by decide) (by decide) k3).2, (F.o s ha (by decide) (by decide) k9).1]
  refine ⟨h1.cong (fun m hm => ?_), h2, fun m hm => ?_, ?_, fun c m hm hs => h5 c m hm (by rw [← e1 hm]; exact hs), h6, fun c c' m m' hm hm' hs hs' => h7 c c' m m' hm hm' (by rw [← e1 hm]; exact hs) (by rw [← e1 hm']; exact hs')⟩
  · obtain ⟨c, hc, -⟩ := h3 m hm
    exact (F.o s (s.wf _ _ _ _ hc.2.1 (by decide)) (by decide) (by decide) k1).2
  · obtain ⟨c, hc, hs⟩ := h3 m hm
    exact ⟨c, hc, by rw [e1 hc]; exact hs⟩
  · exact List.Pairwise.imp_of_mem (fun {x y} hx hy hxy => by rw [e2 x hx, e2 y hy]; exact hxy) h4
/-- rows of live messages -/
def RBn (g : Gh) (σ : Sg) : Prop := ∀ p c m, p < 4 → c < 64 → σ.2.1 150006 (g.D p 7) c = some m → 64 * p ≤ g.B m ∧ g.B m < 64 * p + 64
theorem RBn.of (h : ∀ p, p < 4 → RA g p σ) : RBn g σ := by
  intro p c m hp hc hm
  by_cases z : al g σ p
  · obtain ⟨h1, -⟩ := (h p hp).1 z
    exact ⟨(h1.1 c m hc hm).1, (h1.1 c m hc hm).2.1⟩
  · rw [((h p hp).2 z).1 c hc] at hm; cases hm
theorem RQ.fr (h : RQ g σ) (s : RS E g σ) (hB : RBn g σ) (F : Fr K J σ σ') (hK : ([61106, 30406, 30506, 150006, 60000, 60303, 610000, 670000, 30300].all fun c => !K c) = true) (hK2 : ([30200, 30000, 510000].all fun c => !K c) = true) (hJ : J 3 = false) : RQ g σ' := by
  have hK0 := hK
  simp only [List.all_cons, List.all_nil, Bool.and_true, Bool.and_eq_true, Bool.not_eq_true'] at hK0 hK2
  obtain ⟨k1, k2, k3, k4, k5, k6, k7, k8, k9⟩ := hK0
  obtain ⟨k10, k11, k12⟩ := hK2
  have k3' : ∀ a, σ'.2.2.2 a = 3 → σ.2.2.2 a = 3 := by
    intro a ha
    by_cases z : σ.2.2.2 a = 0
    · have := F.2.1 a z (by rw [ha]; decide)
      rw [ha, hJ] at this; cases this
    · rw [← F.1 a z]; exact ha
  refine ⟨fun a o ha hd ho hw => ?_, fun p c m hp ha hc hm hs => ?_⟩
  · have ha3 := k3' a ha
    have a0 : σ.2.2.2 a ≠ 0 := by rw [ha3]; decide
    rw [(F.2.2 _ _ _ a0 k10).1] at hd
    rw [(F.2.2 _ _ _ a0 k11).1] at hw
    exact (h.1 a o ha3 hd ho hw).fr ha3 ho s (fun c m => hB o c m ho) (F.at g o) hK
  · rw [(F.2.2 _ _ _ (s.kD hp (by decide)) k4).2] at hm
    rw [(F.2.2 _ _ _ (s.kA (by decide)) k7).1] at hs
    rw [(F.2.2 _ _ _ (by rw [s.wf _ _ _ _ hm (by decide)]; decide) k5).1]
    exact h.2 p c m hp ((al.fr s F k12 p).mp ha) hc hm hs
/-- calls of q that nobody has answered yet -/
def oM (σ : Sg) (q l m : Nat) : Bool := σ.1 60100 m 0 == nI q && σ.1 60200 m 0 == nI l
def oW (σ : Sg) (q l w : Nat) : Bool := σ.1 50000 w 0 == 1 && match σ.2.1 50106 w 0 with
  | none => false
  | some m => oM σ q l m
def rW (σ : Sg) (w : Nat) : Bool := σ.1 50000 w 0 == 3 || σ.1 50000 w 0 == 5
def outP (g : Gh) (σ : Sg) (q p : Nat) : Nat := (g.L1 p).countP (oW σ q (g.lv q)) + (g.L2 p).countP (oM σ q (g.lv q))
def outN (g : Gh) (σ : Sg) (q : Nat) : Nat := outP g σ q 0 + outP g σ q 1 + outP g σ q 2 + outP g σ q 3 + (g.L1 q).countP (rW σ)
def RC (g : Gh) (σ : Sg) : Prop := ∀ q, q < 4 → al g σ q → outN g σ q ≤ (if σ.1 770000 (g.A 26) q = 0 then 0 else 1)
def RB (g : Gh) (σ : Sg) : Prop := ∀ p, p < 4 → al g σ p → (g.L1 p).countP (fun w => !(σ.1 50000 w 0 == 2)) + (g.L3 p).length ≤ 24 + (g.L1 p).countP (fun w => σ.1 50000 w 0 == 5)
theorem countP_cong {P Q : Nat → Bool} {l : List Nat} (h : ∀ x, x ∈ l → P x = Q x) : l.countP P = l.countP Q := by
  induction l with
  | nil => rfl
  | cons a t ih =>
    rw [List.countP_cons, List.countP_cons, ih (fun x hx => h x (List.mem_cons_of_mem _ hx)), h a List.mem_cons_self]
theorem RS.m1 (s : RS E g σ) {p w : Nat} (hp : p < 4) (hw : w ∈ g.L1 p) : σ.2.2.2 w = 5 := by
  obtain ⟨i, hi⟩ := List.getElem?_of_mem hw; exact s.k1 hp hi
theorem RS.m2 (s : RS E g σ) {p w : Nat} (hp : p < 4) (hw : w ∈ g.L2 p) : σ.2.2.2 w = 6 := by
  obtain ⟨i, hi⟩ := List.getElem?_of_mem hw; exact s.k2 hp hi
theorem oM.fr {p : Nat} (s : RS E g σ) (F : FrP g p K J σ σ') {q l m : Nat} (hm : σ.2.2.2 m = 6) (k1 : K 60100 = false) (k2 : K 60200 = false) : oM σ' q l m = oM σ q l m := by
  unfold oM; rw [(F.o s hm (by decide) (by decide) k1).1, (F.o s hm (by decide) (by decide) k2).1]
theorem oW.fr {p : Nat} (s : RS E g σ) (F : FrP g p K J σ σ') {q l w : Nat} (hw : σ.2.2.2 w = 5) (hK : ([60100, 60200, 50000, 50106].all fun c => !K c) = true) : oW σ' q l w = oW σ q l w := by
  simp only [List.all_cons, List.all_nil, Bool.and_true, Bool.and_eq_true, Bool.not_eq_true'] at hK
  obtain ⟨k1, k2, k3, k4⟩ := hK
  unfold oW
  rw [(F.o s hw (by decide) (by decide) k3).1, (F.o s hw (by decide) (by decide) k4).2]
  cases e : σ.2.1 50106 w 0 with
  | none => rfl
  | some m =>
    dsimp only
    rw [oM.fr s F (s.wf _ _ _ _ e (by decide)) k1 k2]
theorem outP.fr {p0 : Nat} (s : RS E g σ) (F : FrP g p0 K J σ σ') (hK : ([60100, 60200, 50000, 50106].all fun c => !K c) = true) {q p : Nat} (hp : p < 4) : outP g σ' q p = outP g σ q p := by
  have hK0 := hK
  simp only [List.all_cons, List.all_nil, Bool.and_true, Bool.and_eq_true, Bool.not_eq_true'] at hK0
  unfold outP
  rw [countP_cong (fun w hw => oW.fr s F (s.m1 hp hw) hK), countP_cong (l := g.L2 p) (fun m hm => oM.fr s F (s.m2 hp hm) hK0.1 hK0.2.1)]
theorem outN.fr {p0 : Nat} (s : RS E g σ) (F : FrP g p0 K J σ σ') (hK : ([60100, 60200, 50000, 50106].all fun c => !K c) = true) {q : Nat} (hq : q < 4) : outN g σ' q = outN g σ q := by
  have hK0 := hK
  simp only [List.all_cons, List.all_nil, Bool.and_true, Bool.and_eq_true, Bool.not_eq_true'] at hK0
  unfold outN
  rw [outP.fr s F hK (by decide), outP.fr s F hK (by decide), outP.fr s F hK (by decide), outP.fr s F hK (by decide),
    countP_cong (l := g.L1 q) (P := rW σ') (Q := rW σ) (fun w hw => by unfold rW; rw [(F.o s (s.m1 hq hw) (by decide) (by decide) hK0.2.2.1).1])]
theorem RC.fr (h : RC g σ) (s : RS E g σ) (F : Fr K J σ σ') (hK : ([60100, 60200, 50000, 50106].all fun c => !K c) = true) (hK2 : ([770000, 510000].all fun c => !K c) = true) : RC g σ' := by
  simp only [List.all_cons, List.all_nil, Bool.and_true, Bool.and_eq_true, Bool.not_eq_true'] at hK2
  intro q hq ha
  have := h q hq ((al.fr s F hK2.2 q).mp ha)
  rw [outN.fr s (F.at g 0) hK hq, (F.2.2 _ _ _ (s.kA (by decide)) hK2.1).1]
  exact this
/-- for one process -/
theorem RB.frp {p : Nat} (hp : p < 4) (h : (g.L1 p).countP (fun w => !(σ.1 50000 w 0 == 2)) + (g.L3 p).length ≤ 24 + (g.L1 p).countP (fun w => σ.1 50000 w 0 == 5)) (s : RS E g σ) (F : FrP g p K J σ σ') (k1 : K 50000 = false) : (g.L1 p).countP (fun w => !(σ'.1 50000 w 0 == 2)) + (g.L3 p).length ≤ 24 + (g.L1 p).countP (fun w => σ'.1 50000 w 0 == 5) := by
  have e : ∀ w, w ∈ g.L1 p → σ'.1 50000 w 0 = σ.1 50000 w 0 := fun w hw => (F.o s (s.m1 hp hw) (by decide) (by decide) k1).1
  rw [countP_cong (l := g.L1 p) (P := fun w => !(σ'.1 50000 w 0 == 2)) (fun w hw => by rw [e w hw]), countP_cong (l := g.L1 p) (P := fun w => σ'.1 50000 w 0 == 5) (fun w hw => by rw [e w hw])]
  exact h
theorem RB.fr (h : RB g σ) (s : RS E g σ) (F : Fr K J σ σ') (k1 : K 50000 = false) (k2 : K 510000 = false) : RB g σ' := by
  intro p hp ha
  have := h p hp ((al.fr s F k2 p).mp ha)
  have e : ∀ w, w ∈ g.L1 p → σ'.1 50000 w 0 = σ.1 50000 w 0 := fun w hw => (F.2.2 _ _ _ (by rw [s.m1 hp hw]; decide) k1).1
  rw [countP_cong (l := g.L1 p) (P := fun w => !(σ'.1 50000 w 0 == 2)) (fun w hw => by rw [e w hw]), countP_cong (l := g.L1 p) (P := fun w => σ'.1 50000 w 0 == 5) (fun w hw => by rw [e w hw])]
  exact this
/-- class and model say the same, after n calls -/
def RR (E : FE) (g : Gh) (n : Nat) (σ : Sg) : Prop := (RS E g σ) ∧ (RP g n σ) ∧ (RNo g σ) ∧ (RMg g σ) ∧ (∀ p, p < 4 → RH g n p σ) ∧ (∀ p, p < 4 → RD g p σ) ∧ (∀ p, p < 4 → RA g p σ) ∧ (∀ p, p < 4 → RI g p σ) ∧ (∀ p, p < 4 → RO g p σ) ∧ (∀ p, p < 4 → RV g p σ) ∧ (∀ p, p < 4 → RL g p σ) ∧ (RQ g σ) ∧ (RC g σ) ∧ (RB g σ) ∧ (∃ T, σ.1 502300 g.m 0 = nI T ∧ T ≤ n)
theorem RR.s {E : FE} {g : Gh} {n : Nat} {σ : Sg} (h9 : RR E g n σ) : RS E g σ := h9.1
theorem RR.p {E : FE} {g : Gh} {n : Nat} {σ : Sg} (h9 : RR E g n σ) : RP g n σ := h9.2.1
theorem RR.no {E : FE} {g : Gh} {n : Nat} {σ : Sg} (h9 : RR E g n σ) : RNo g σ := h9.2.2.1
theorem RR.mg {E : FE} {g : Gh} {n : Nat} {σ : Sg} (h9 : RR E g n σ) : RMg g σ := h9.2.2.2.1
theorem RR.h {E : FE} {g : Gh} {n : Nat} {σ : Sg} (h9 : RR E g n σ) : ∀ p, p < 4 → RH g n p σ := h9.2.2.2.2.1
theorem RR.d {E : FE} {g : Gh} {n : Nat} {σ : Sg} (h9 : RR E g n σ) : ∀ p, p < 4 → RD g p σ := h9.2.2.2.2.2.1
theorem RR.a {E : FE} {g : Gh} {n : Nat} {σ : Sg} (h9 : RR E g n σ) : ∀ p, p < 4 → RA g p σ := h9.2.2.2.2.2.2.1
theorem RR.i {E : FE} {g : Gh} {n : Nat} {σ : Sg} (h9 : RR E g n σ) : ∀ p, p < 4 → RI g p σ := h9.2.2.2.2.2.2.2.1
theorem RR.o {E : FE} {g : Gh} {n : Nat} {σ : Sg} (h9 : RR E g n σ) : ∀ p, p < 4 → RO g p σ := h9.2.2.2.2.2.2.2.2.1
theorem RR.v {E : FE} {g : Gh} {n : Nat} {σ : Sg} (h9 : RR E g n σ) : ∀ p, p < 4 → RV g p σ := h9.2.2.2.2.2.2.2.2.2.1
theorem RR.l {E : FE} {g : Gh} {n : Nat} {σ : Sg} (h9 : RR E g n σ) : ∀ p, p < 4 → RL g p σ := h9.2.2.2.2.2.2.2.2.2.2.1
theorem RR.q {E : FE} {g : Gh} {n : Nat} {σ : Sg} (h9 : RR E g n σ) : RQ g σ := h9.2.2.2.2.2.2.2.2.2.2.2.1
theorem RR.c {E : FE} {g : Gh} {n : Nat} {σ : Sg} (h9 : RR E g n σ) : RC g σ := h9.2.2.2.2.2.2.2.2.2.2.2.2.1
theorem RR.b {E : FE} {g : Gh} {n : Nat} {σ : Sg} (h9 : RR E g n σ) : RB g σ := h9.2.2.2.2.2.2.2.2.2.2.2.2.2.1
theorem RR.t {E : FE} {g : Gh} {n : Nat} {σ : Sg} (h9 : RR E g n σ) : ∃ T, σ.1 502300 g.m 0 = nI T ∧ T ≤ n := h9.2.2.2.2.2.2.2.2.2.2.2.2.2.2
theorem RR.mk {E : FE} {g : Gh} {n : Nat} {σ : Sg} (s : RS E g σ) (p : RP g n σ) (no : RNo g σ) (mg : RMg g σ) (h : ∀ p, p < 4 → RH g n p σ) (d : ∀ p, p < 4 → RD g p σ) (a : ∀ p, p < 4 → RA g p σ) (i : ∀ p, p < 4 → RI g p σ) (o : ∀ p, p < 4 → RO g p σ) (v : ∀ p, p < 4 → RV g p σ) (l : ∀ p, p < 4 → RL g p σ) (q : RQ g σ) (c : RC g σ) (b : RB g σ) (t : ∃ T, σ.1 502300 g.m 0 = nI T ∧ T ≤ n) : RR E g n σ := ⟨s, p, no, mg, h, d, a, i, o, v, l, q, c, b, t⟩
end FRM
