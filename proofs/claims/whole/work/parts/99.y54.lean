/-! kinds stay; the longs don't matter -/
section KKS
variable {E : FE} {g : Gh} {σ τ σ' s : Sg} {n : Nat}
theorem RR.sx (R : RR E g n σ) (h1 : τ.1 = σ.1) (h2 : τ.2.1 = σ.2.1) (h3 : τ.2.2.2 = σ.2.2.2) : RR E g n τ := by
  have F : Fr (fun _ => false) (fun _ => false) σ τ := ⟨fun x _ => by rw [h3], fun x h0 hn => absurd (by rw [h3]; exact h0) hn, fun c x i _ _ => ⟨by rw [h1], by rw [h2]⟩⟩
  have hw' : WF τ := by intro c a x b hb hc; rw [h2] at hb; rw [h3]; exact R.s.wf c a x b hb hc
  have hfe' : τ.2.2.2 (fe E) = 0 := by rw [h3]; exact R.s.f0
  exact RR.mk
          (s := R.s.fr0 F hw' hfe' (by decide) (by decide) (by decide) (by decide))
          (p := R.p.fr R.s F (by decide))
          (no := R.no.fr R.s F (by decide) (by decide))
          (mg := R.mg.fr R.s F (by decide))
          (h := fun p hp => (R.h p hp).fr hp R.s (F.at _ p) (by decide))
          (d := fun p hp => (R.d p hp).fr hp R.s (F.at _ p) (by decide))
          (a := fun p hp => (R.a p hp).fr hp R.s (F.at _ p) (by decide) (by decide))
          (i := fun p hp => (R.i p hp).fr hp R.s (fun c m h1 h2 _ => RBn.of R.a p c m hp h1 h2) (F.at _ p) (by decide))
          (o := fun p hp => (R.o p hp).fr hp R.s (F.at _ p) (by decide))
          (v := fun p hp => (R.v p hp).fr hp R.s (F.at _ p) (by decide))
          (l := fun p hp => (R.l p hp).fr hp R.s (F.at _ p) (by decide) (by decide))
          (q := R.q.fr R.s (RBn.of R.a) F (by decide) (by decide) (by decide))
          (c := R.c.fr R.s F (by decide) (by decide))
          (b := R.b.fr R.s F (by decide) (by decide))
          (t := by obtain ⟨T, a, b⟩ := R.t; exact ⟨T, by rw [h1]; exact a, b⟩)
def Kk (σ σ' : Sg) : Prop := ∀ y, σ.2.2.2 y ≠ 0 → σ'.2.2.2 y = σ.2.2.2 y
theorem Kk.of (h : σ'.2.2.2 = σ.2.2.2) : Kk σ σ' := fun y _ => by rw [h]
theorem Kk.tr (h1 : Kk σ s) (h2 : Kk s σ') : Kk σ σ' := fun y hy => (h2 y (by rw [h1 y hy]; exact hy)).trans (h1 y hy)
theorem Kk.eqk {k ka : Nat} (h : Eqk E k ka σ σ') : Kk σ σ' := h.1
theorem Kk.nw {q k : Nat} (q0 : σ.2.2.2 q = 0) : Kk σ (sN σ q k) := fun y hy => if_neg (fun e => hy (by rw [e]; exact q0))
theorem Kk.wk {q : Nat} {k c : Int32} {mo : Option Nat} (q0 : σ.2.2.2 q = 0) : Kk σ (wkS σ q k mo c) := (Kk.nw (k := 5) q0).tr (Kk.of rfl)
theorem Kk.wt {q a : Nat} {c : Int32} (q0 : σ.2.2.2 q = 0) : Kk σ (wtS σ q a c) := (Kk.nw (k := 7) q0).tr (Kk.of rfl)
theorem kd_if {c : Prop} [Decidable c] {a b : Int32 × Sg} (h1 : a.2.2.2.2 = σ.2.2.2) (h2 : b.2.2.2.2 = σ.2.2.2) : (if c then a else b).2.2.2.2 = σ.2.2.2 := by
  split <;> assumption
theorem kd_if2 {c : Prop} [Decidable c] {a b : Sg} (h1 : a.2.2.2 = σ.2.2.2) (h2 : b.2.2.2 = σ.2.2.2) : (if c then a else b).2.2.2 = σ.2.2.2 := by
  split <;> assumption
theorem addTo_kd {h a1 a2 a3 : Nat} {n b : Int32} : (addToF σ h a1 a2 a3 n b).2.2.2.2 = σ.2.2.2 := by
  unfold addToF
  exact kd_if rfl (kd_if rfl (kd_if rfl rfl))
theorem dropS_kd {h a1 a2 a3 i : Nat} : (dropS σ h a1 a2 a3 i).2.2.2 = σ.2.2.2 := by
  unfold dropS
  exact kd_if2 (kd_if2 rfl rfl) rfl
theorem takeFrom_kd {h a1 a2 a3 : Nat} {n b : Int32} : (takeFromF σ h a1 a2 a3 n b).2.2.2.2 = σ.2.2.2 := by
  unfold takeFromF
  exact kd_if rfl (kd_if (kd_if rfl dropS_kd) (kd_if rfl dropS_kd))
theorem app_kd {a a1 a2 : Nat} {k v : Int32} : (appF σ a a1 a2 k v).2.2.2.2 = σ.2.2.2 := by
  unfold appF
  exact kd_if rfl (kd_if rfl (kd_if rfl rfl))
theorem odr_kd {a : Nat} {x : Int32} : (odrF σ a x).2.2.2.2 = σ.2.2.2 := by
  unfold odrF
  exact kd_if rfl (kd_if rfl rfl)
theorem omg_kd {x a : Nat} {k : Int32} : (omgF σ x a k).2.2.2.2 = σ.2.2.2 := by
  unfold omgF
  split
  · rfl
  · split <;> rfl
theorem osv_k {a p : Nat} {x v : Int32} (h : osvP E σ a p x v σ') : Kk σ σ' := by
  unfold osvP at h
  split at h
  · rw [h.2]; exact Kk.of rfl
  · split at h
    · split at h
      · obtain ⟨-, q, q0, -, e⟩ := h
        rw [e]
        exact (Kk.nw (k := 3) q0).tr (Kk.of rfl)
      · rw [h.2]; exact Kk.of rfl
    · rw [h.2]; exact Kk.of rfl
theorem owt_k {D : Nat → Nat → Nat} {p : Nat} {L1 L3 : Nat → List Nat} {x c v : Int32} (h : owtP E D p L1 L3 σ x c v σ') : Kk σ σ' := by
  unfold owtP at h
  split at h
  · rw [h.2]; exact Kk.of rfl
  · split at h
    · rw [h.2]; exact Kk.of rfl
    · split at h
      · rw [h.2]; exact Kk.of rfl
      · obtain ⟨a, -, -, h⟩ := h
        split at h
        · obtain ⟨q, AR, q0, -, -, e⟩ := h
          exact (Kk.wt q0).tr (Kk.eqk e)
        · obtain ⟨q, AR, q0, -, -, e⟩ := h
          exact (Kk.wk q0).tr (Kk.eqk e)
theorem accP_k {D : Nat → Nat → Nat} {p w : Nat} {L2 : Nat → List Nat} (h : accP E D p w L2 σ σ') : Kk σ σ' := by
  unfold accP at h
  split at h
  · rw [h]; exact Kk.of (kd_if2 rfl (kd_if2 rfl rfl))
  · split at h
    · obtain ⟨AR, -, e⟩ := h
      exact Kk.tr (s := sI (sO σ 21105 (D p 0) 0 (some w)) 61000 _ 0 1) (Kk.of rfl) (Kk.eqk e)
    · rw [h]; exact Kk.of (kd_if2 rfl (kd_if2 rfl rfl))
theorem otk_k {D : Nat → Nat → Nat} {p : Nat} {L1 L2 : Nat → List Nat} {v : Int32} (h : otkP E D p L1 L2 σ v σ') : Kk σ σ' := by
  unfold otkP at h
  split at h
  · rw [h.2]; exact Kk.of rfl
  · split at h
    · rw [h.2]; exact Kk.of rfl
    · obtain ⟨-, σa, -, e, h⟩ := h
      exact (Kk.eqk e).tr (accP_k h)
theorem lose_kd {h a1 a2 a3 : Nat} {v : Option Nat} : (loseF σ h a1 a2 a3 v).2.2.2 = σ.2.2.2 := by
  unfold loseF
  exact kd_if2 rfl takeFrom_kd
theorem lsF_kd {D : Nat → Nat → Nat} {p a3 k i : Nat} : (itF (lsF D p a3) k i σ).2.2.2 = σ.2.2.2 := by
  have h := itF_ind (f := lsF D p a3) (fun _ τ => τ.2.2.2 = σ.2.2.2) k i σ rfl (fun j b _ _ hb => by
    unfold lsF; rw [lose_kd]; exact hb)
  exact h
theorem arR_kd {a a1 m g : Nat} : (arR σ a a1 m g).2.2.2 = σ.2.2.2 := by
  unfold arR
  exact kd_if2 rfl rfl
theorem unq_kd {a : Nat} : (unqF σ a).2.2.2.2 = σ.2.2.2 := by
  unfold unqF
  split
  · rfl
  · show (if _ then _ else _ : Sg).2.2.2 = σ.2.2.2
    exact kd_if2 rfl rfl
theorem bsy_kd {m : Nat} : (bsyS σ m).2.2.2 = σ.2.2.2 := by
  unfold bsyS
  split
  · split <;> rfl
  · rfl
theorem sn_k {D : Nat → Nat → Nat} {p a : Nat} {L1 : Nat → List Nat} (h : snP E D p a L1 σ σ') : Kk σ σ' := by
  unfold snP at h
  split at h
  · rw [h]; exact Kk.of unq_kd
  · obtain ⟨q, AR, q0, -, -, e⟩ := h
    have k1 : Kk σ (unqF (sI σ 30300 a 0 0) a).2 := Kk.of unq_kd
    have k2 : ∀ mm, Kk (unqF (sI σ 30300 a 0 0) a).2 (bsyS (unqF (sI σ 30300 a 0 0) a).2 mm) := fun mm => Kk.of bsy_kd
    exact ((k1.tr (k2 _)).tr (Kk.wk (by rw [bsy_kd]; exact q0))).tr (Kk.eqk e)
theorem ofr_k {D : Nat → Nat → Nat} {p : Nat} {L1 : Nat → List Nat} {x v : Int32} (h : ofrP E D p L1 σ x v σ') : Kk σ σ' := by
  unfold ofrP at h
  split at h
  · rw [h.2]; exact Kk.of rfl
  · obtain ⟨-, c, it, a3, -, -, -, -, -, h⟩ := h
    have e : ∀ mm, (itF (lsF D p a3) it 0 (arR σ (D p 6) (D p 7) mm c)).2.2.2 = σ.2.2.2 := fun mm => lsF_kd.trans arR_kd
    split at h
    · split at h
      · rw [h]; exact Kk.of (e _)
      · exact (Kk.of (e _)).tr (sn_k h)
    · rw [h]; exact Kk.of (e _)
theorem osn_k {D : Nat → Nat → Nat} {x p k : Nat} {L1 : Nat → List Nat} {y w v : Int32} (h : osnP E D x p k L1 σ y w v σ') : Kk σ σ' := by
  unfold osnP at h
  split at h
  · rw [h.2]; exact Kk.of rfl
  · split at h
    · rw [h.2]; exact Kk.of rfl
    · split at h
      · rw [h.2]; exact Kk.of rfl
      · obtain ⟨q, σ1, -, -, h, e⟩ := h
        have k1 : Kk σ σ1 := fun y hy => pstP_k h hy
        rw [e]
        split
        · exact k1
        · exact k1
theorem orp_k {D : Nat → Nat → Nat} {x p k : Nat} {L1 L2 : Nat → List Nat} {v : Int32} (h : orpP E D x p k L1 L2 σ v σ') : Kk σ σ' := by
  rcases h with ⟨-, -, e⟩ | ⟨L, m0, q, -, -, -, h⟩
  · rw [e]; exact Kk.of rfl
  · split at h
    · obtain ⟨-, AR, e, -⟩ := h
      exact Kk.eqk e
    · obtain ⟨σa, h, h2⟩ := h
      have k1 : Kk σ σa := fun y hy => pstP_k h hy
      split at h2
      · obtain ⟨AR, e, -⟩ := h2
        exact k1.tr (Kk.eqk e)
      · rw [h2]; exact k1
theorem abs_IA {al : Nat → Int32} {y : Int32} (h : y < 0 ∨ 4 ≤ y) : absF al y = 1 := by
  unfold absF
  rcases h with h | h
  · rw [if_pos h]
  · have h1 : ¬ y < 0 := fun z => by
      rw [Int32.lt_iff_toInt_lt] at z
      rw [Int32.le_iff_toInt_le] at h
      have e4 : (4 : Int32).toInt = 4 := rfl
      have e0 : (0 : Int32).toInt = 0 := rfl
      omega
    have h2 : ¬ y ≤ 3 := fun z => by
      rw [Int32.le_iff_toInt_le] at z h
      have e4 : (4 : Int32).toInt = 4 := rfl
      have e0 : (3 : Int32).toInt = 3 := rfl
      omega
    rw [if_neg h1, if_neg h2]
theorem abs_j {al : Nat → Int32} {j : Nat} (hj : j < 4) : absF al (nI j) = if al j = 0 then 2 else 0 := by
  unfold absF
  rw [if_neg (lt0_nI (by omega)), if_pos (show nI j ≤ 3 from (nI_leI (b := 3) (by omega) (by omega)).mpr (by omega)), nI_clamp (by omega)]
end KKS
