/-! the class leaves the model; what the model asks for is there -/
section MQS
variable {E : FE} {g : Gh} {σ τ σ' s : Sg} {n p : Nat}
def Mq (σ σ' : Sg) : Prop := ∀ y, σ.2.2.2 y ≠ 0 → σ'.2.2.2 y = σ.2.2.2 y ∧ ∀ c i, 500000 ≤ c → σ'.1 c y i = σ.1 c y i
theorem Mq.of (h : σ'.2.2.2 = σ.2.2.2) (h2 : ∀ c y i, 500000 ≤ c → σ'.1 c y i = σ.1 c y i) : Mq σ σ' := fun y _ => ⟨by rw [h], fun c i hc => h2 c y i hc⟩
theorem Mq.rf : Mq σ σ := Mq.of rfl (fun _ _ _ _ => rfl)
theorem Mq.tr (h1 : Mq σ s) (h2 : Mq s σ') : Mq σ σ' := fun y hy => by
  obtain ⟨a, b⟩ := h1 y hy
  obtain ⟨c, d⟩ := h2 y (by rw [a]; exact hy)
  exact ⟨c.trans a, fun k i hk => (d k i hk).trans (b k i hk)⟩
theorem Mq.i {c x i : Nat} {v : Int32} (h : Mq σ s) (hc : c < 500000) : Mq σ (sI s c x i v) := h.tr (Mq.of rfl (fun k y j hk => rII (by omega)))
theorem Mq.o {c x i : Nat} {v : Option Nat} (h : Mq σ s) : Mq σ (sO s c x i v) := h.tr (Mq.of rfl (fun k y j hk => rfl))
theorem Mq.eqk {k ka : Nat} (h : Mq σ s) (e : Eqk E k ka s σ') (h1 : k < 50) (h2 : ka < 50) : Mq σ σ' := h.tr (fun y hy => ⟨e.1 y hy, fun c i hc => (e.2.2.1 c y i hy (by omega) (by omega)).1⟩)
theorem Mq.nw {q k : Nat} (h : Mq σ s) (q0 : s.2.2.2 q = 0) : Mq σ (sN s q k) := h.tr (fun y hy => by
  have n : y ≠ q := fun e => hy (by rw [e]; exact q0)
  exact ⟨if_neg n, fun c i _ => if_neg n⟩)
theorem Mq.wk {q : Nat} {k c : Int32} {mo : Option Nat} (h : Mq σ s) (q0 : s.2.2.2 q = 0) : Mq σ (wkS s q k mo c) := (((h.nw q0).i (by decide)).o).i (by decide)
theorem Mq.wt {q a : Nat} {c : Int32} (h : Mq σ s) (q0 : s.2.2.2 q = 0) : Mq σ (wtS s q a c) := ((h.nw q0).o).i (by decide)
theorem Mq.if_ {c : Prop} [Decidable c] {a b : Sg} (h1 : Mq σ a) (h2 : Mq σ b) : Mq σ (if c then a else b) := by
  split <;> assumption
theorem owt_m {D : Nat → Nat → Nat} {L1 L3 : Nat → List Nat} {x c v : Int32} (h : owtP E D p L1 L3 σ x c v σ') : Mq σ σ' := by
  unfold owtP at h
  split at h
  · rw [h.2]; exact Mq.rf
  · split at h
    · rw [h.2]; exact Mq.rf
    · split at h
      · rw [h.2]; exact Mq.rf
      · obtain ⟨a, -, -, h⟩ := h
        split at h
        · obtain ⟨q, AR, q0, -, -, e⟩ := h
          exact (Mq.rf.wt q0).eqk e (by decide) (by decide)
        · obtain ⟨q, AR, q0, -, -, e⟩ := h
          exact (Mq.rf.wk q0).eqk e (by decide) (by decide)
theorem acc_m {D : Nat → Nat → Nat} {w : Nat} {L2 : Nat → List Nat} (h : accP E D p w L2 s σ') (h0 : Mq σ s) : Mq σ σ' := by
  unfold accP at h
  split at h
  · rw [h]; exact Mq.if_ (h0.o.i (by decide)) (Mq.if_ (h0.o.i (by decide)) h0.o)
  · split at h
    · obtain ⟨AR, -, e⟩ := h
      exact (h0.o.i (by decide)).eqk e (by decide) (by decide)
    · rw [h]; exact Mq.if_ ((h0.o.i (by decide)).i (by decide)) (Mq.if_ ((h0.o.i (by decide)).i (by decide)) (h0.o.i (by decide)))
theorem otk_m {D : Nat → Nat → Nat} {L1 L2 : Nat → List Nat} {v : Int32} (h : otkP E D p L1 L2 σ v σ') : Mq σ σ' := by
  unfold otkP at h
  split at h
  · rw [h.2]; exact Mq.rf
  · split at h
    · rw [h.2]; exact Mq.rf
    · obtain ⟨-, σa, -, e, h⟩ := h
      exact acc_m h (Mq.rf.eqk e (by decide) (by decide))
theorem dropS_m9 {h a1 a2 a3 i : Nat} (h0 : Mq σ s) : Mq σ (dropS s h a1 a2 a3 i) := by
  unfold dropS
  exact Mq.if_ (Mq.if_ (h0.o.i (by decide)) h0) h0
theorem if_2 {c : Prop} [Decidable c] {a b : Int32 × Sg} (h1 : Mq σ a.2) (h2 : Mq σ b.2) : Mq σ (if c then a else b).2 := by
  split <;> assumption
theorem takeFrom_m {h a1 a2 a3 : Nat} {x b : Int32} (h0 : Mq σ s) : Mq σ (takeFromF s h a1 a2 a3 x b).2 := by
  unfold takeFromF
  exact if_2 h0 (if_2 (if_2 h0 (dropS_m9 (h0.i (by decide)))) (if_2 h0 (dropS_m9 (h0.i (by decide)))))
theorem lsF_m {D : Nat → Nat → Nat} {a3 k i : Nat} (h0 : Mq σ s) : Mq σ (itF (lsF D p a3) k i s) := by
  have h := itF_ind (f := lsF D p a3) (fun _ τ => Mq σ τ) k i s h0 (fun j b _ _ hb => by
    unfold lsF loseF
    exact Mq.if_ hb (takeFrom_m hb))
  exact h
theorem ofr_m {D : Nat → Nat → Nat} {L1 : Nat → List Nat} {x v : Int32} (h : ofrP E D p L1 σ x v σ') : Mq σ σ' := by
  unfold ofrP at h
  split at h
  · rw [h.2]; exact Mq.rf
  · obtain ⟨-, c, it, a3, -, -, -, -, -, h⟩ := h
    have e : ∀ mm, Mq σ (itF (lsF D p a3) it 0 (arR σ (D p 6) (D p 7) mm c)) := fun mm => lsF_m (by
      unfold arR
      exact Mq.if_ ((Mq.rf.o.i (by decide)).i (by decide)) (Mq.rf.o.i (by decide)))
    split at h
    · split at h
      · rw [h]; exact e _
      · unfold snP at h
        have u : ∀ {mm a}, Mq σ (unqF (sI (itF (lsF D p a3) it 0 (arR σ (D p 6) (D p 7) mm c)) 30300 a 0 0) a).2 := fun {mm a} => by
          unfold unqF
          split
          · exact (e mm).i (by decide)
          · exact (Mq.if_ (((e mm).i (by decide)).o.o) (((e mm).i (by decide)).o)).o
        split at h
        · rw [h]; exact u
        · obtain ⟨q, AR, q0, -, -, e⟩ := h
          have b9 : ∀ {m9 s9}, Mq σ s9 → Mq σ (bsyS s9 m9) := fun {m9 s9} h9 => by
            unfold bsyS
            refine Mq.if_ ?_ h9
            split
            · exact h9
            · exact h9.i (by decide)
          exact ((b9 u).wk (by rw [bsy_kd]; exact q0)).eqk e (by decide) (by decide)
    · rw [h]; exact e _
theorem Mq.a (h : Mq σ σ') (s : RS E g σ) {c j i : Nat} (hj : j < 31) (hc : 500000 ≤ c) : σ'.1 c (g.A j) i = σ.1 c (g.A j) i := (h _ (s.kA hj)).2 c i hc
/-- a handle's node is a number -/
theorem RR.n9 (R : RR E g n σ) (hn : n ≤ 512) (hp : p < 4) (ha : al g σ p) (y : Int32) (h1 : 1 ≤ y.toNatClampNeg) (h2 : y.toNatClampNeg < 16) (h : ¬ hhF (σ.1 550000 (g.A 4)) (σ.1 560000 (g.A 5)) p y = 0) : ¬ σ.1 540000 (g.A 3) (16 * p + y.toNatClampNeg) < 0 := by
  obtain ⟨H, -⟩ := (R.h p hp).1 ha
  obtain ⟨hye, -, -⟩ := hhF_n h
  obtain ⟨-, -, s, w, -, -, -, -, h3⟩ := H.1 _ h1 (by omega)
  rcases h3 with ⟨c1, -, -⟩ | ⟨a, c1, -, c3⟩
  · rw [hye] at h
    exact absurd ((H.hh0 (by omega) h1 (by omega)).mpr c1) h
  · rw [c3]
    have := R.no.ok R.p (by omega) (R.s.wf _ _ _ _ c1 (by decide))
    exact lt0_nI (by omega)
/-- the row of a taken message -/
theorem RR.it9 (R : RR E g n σ) (hp : p < 4) (ha : al g σ p) (y : Int32) (h : ¬ itF (tknF (σ.1 610000 (g.A 10)) (σ.1 620000 (g.A 11)) y) 64 (64 * p) (-1) < 0) : ∃ it, it ≤ 4 ∧ σ.1 680000 (g.A 17) ((itF (tknF (σ.1 610000 (g.A 10)) (σ.1 620000 (g.A 11)) y) 64 (64 * p) (-1)).toNatClampNeg) = nI it := by
  obtain ⟨A0, AM, -⟩ := (R.a p hp).1 ha
  rcases sim_taken R hp ha y with ⟨-, t2⟩ | ⟨c, m, hc, -, hm, -, -, -, t2⟩
  · rw [t2] at h; exact absurd (by decide) h
  · obtain ⟨b1, b2, -⟩ := A0.1 c m hc hm
    obtain ⟨k, s, l, it, t, T, a1, a2, a3, x1, x2, x3, x4, x5, x6, x7, x8, x9, x10, x11, x12, -⟩ := AM c m hc hm
    rw [t2, nI_clamp (by omega)]
    exact ⟨it, x11, x12⟩
/-- rows that wait -/
theorem RR.nx9 (R : RR E g n σ) (hn : n ≤ 512) (hp : p < 4) (ha : al g σ p) (b : Nat) (h1 : 64 * p ≤ b) (h2 : b < 64 * p + 64) (h : σ.1 610000 (g.A 10) b = 1) : ¬ σ.1 650000 (g.A 14) b < 0 ∧ (¬ σ.1 660000 (g.A 15) b < 0 → (σ.1 660000 (g.A 15) b).toNatClampNeg < 4) := by
  obtain ⟨A0, AM, -⟩ := (R.a p hp).1 ha
  obtain ⟨c, m, hc, hm, rfl⟩ := A0.2 b h1 h2 (by rw [h]; decide)
  have k2 := R.q.2 p c m hp ha hc hm h
  obtain ⟨k, s, l, it, t, T, a1, a2, a3, x1, x2, x3, x4, x5, x6, x7, x8, x9, x10, x11, x12, x13, x14, x15, -⟩ := AM c m hc hm
  have e2 : k = 2 := (nI_eq (b := 2) (by omega) (by omega)).mp (x1.symm.trans k2)
  refine ⟨?_, fun _ => by rw [x8, nI_clamp (by omega)]; exact x5⟩
  rcases x14 with ⟨z, -⟩ | ⟨a, z1, z2⟩
  · have := x15.mpr z; omega
  · rw [z2]
    have := R.no.ok R.p (by omega) (R.s.wf _ _ _ _ z1 (by decide))
    exact lt0_nI (by omega)
/-- the first work's row -/
theorem RR.b9 (R : RR E g n σ) (hp : p < 4) (ha : al g σ p) (hW : ¬ (g.L1 p).length = 0) (h : ¬ σ.1 730000 (g.A 22) (384 * p + 1) < 0) : (σ.1 730000 (g.A 22) (384 * p + 1)).toNatClampNeg < 256 := by
  have hi : (g.L1 p)[0]? = some ((g.L1 p)[0]'(by omega)) := List.getElem?_eq_getElem (by omega)
  obtain ⟨-, -, q3⟩ := (R.i p hp).1 0 _ hi
  rcases q3 with ⟨-, -, z, -⟩ | ⟨m, c, r1, r2, r3, r4, r5, r6, -⟩
  · rw [show 384 * p + 6 * 0 + 1 = 384 * p + 1 from rfl] at z
    rw [z] at h; exact absurd (by decide) h
  · rw [show 384 * p + 6 * 0 + 1 = 384 * p + 1 from rfl] at r6
    obtain ⟨b1, b2⟩ := RBn.of R.a p c m hp r2 r3
    rw [r6, nI_clamp (by omega)]; omega
end MQS
