section PDS
variable {E : FE} {g : Gh} {σ σ' σ2 τ τ' T : Sg} {n : Nat}
theorem rIe {c a x c' a' x' : Nat} {v : Int32} (h : ¬ (c' = c ∧ a' = a)) : (sI σ c a x v).1 c' a' x' = σ.1 c' a' x' := by
  show (if c' = c ∧ a' = a ∧ x' = x then v else σ.1 c' a' x') = _
  exact if_neg (fun z => h ⟨z.1, z.2.1⟩)
theorem rOe {c a x c' a' x' : Nat} {v : Option Nat} (h : ¬ (c' = c ∧ a' = a)) : (sO σ c a x v).2.1 c' a' x' = σ.2.1 c' a' x' := by
  show (if c' = c ∧ a' = a ∧ x' = x then v else σ.2.1 c' a' x') = _
  exact if_neg (fun z => h ⟨z.1, z.2.1⟩)
theorem give_i {h b1 b2 a c x i : Nat} (n1 : ¬ (c = 130000 ∧ x = b2)) (n2 : ¬ (c = 80300 ∧ x = h)) : (giveF τ h b1 b2 a).2.1 c x i = τ.1 c x i := by
  unfold giveF
  split
  · split
    · rfl
    · dsimp only; rw [rIe n1, rIe n2]; rfl
  · dsimp only; rw [rIe n1]
theorem give_o {h b1 b2 a c x i : Nat} (n1 : ¬ (c = 120003 ∧ x = b1)) : (giveF τ h b1 b2 a).2.2.1 c x i = τ.2.1 c x i := by
  unfold giveF
  split
  · split
    · rfl
    · dsimp only; show (sO τ _ _ _ _).2.1 c x i = _; rw [rOe n1]
  · rfl
theorem give_k {h b1 b2 a : Nat} : (giveF τ h b1 b2 a).2.2.2 = τ.2.2 := by
  unfold giveF
  split
  · split <;> rfl
  · rfl
section RI
variable {D : Nat → Nat → Nat} {q dv dn a1 a2 a3 : Nat}
theorem ri_i {j c x i : Nat} (n1 : ¬ (c = 310000 ∧ x = a1)) (n2 : ¬ (c = 320000 ∧ x = a2)) (n3 : ¬ (c = 130000 ∧ x = D q 4)) (n4 : ¬ (c = 80300 ∧ x = D q 2)) : (riF D q dv dn a1 a2 a3 j τ).1 c x i = τ.1 c x i := by
  unfold riF
  split
  · rw [rIe n2, rIe n1]
  · split
    · show (sI (sI _ _ _ _ _) _ _ _ _).1 c x i = _
      rw [rIe n2, rIe n1, give_i n3 n4]
    · rw [rIe n2, rIe n1]
theorem ri_o {j c x i : Nat} (n1 : ¬ (c = 330003 ∧ x = a3)) (n2 : ¬ (c = 120003 ∧ x = D q 3)) : (riF D q dv dn a1 a2 a3 j τ).2.1 c x i = τ.2.1 c x i := by
  unfold riF
  split
  · rfl
  · split
    · rw [rOe n1]; show (giveF τ _ _ _ _).2.2.1 c x i = _; exact give_o n2
    · rfl
theorem ri_k {j : Nat} : (riF D q dv dn a1 a2 a3 j τ).2.2 = τ.2.2 := by
  unfold riF
  split
  · rfl
  · split
    · show (giveF τ _ _ _ _).2.2.2 = _; exact give_k
    · rfl
theorem rn_i {k c x i : Nat} (n1 : ¬ (c = 310000 ∧ x = a1)) (n2 : ¬ (c = 320000 ∧ x = a2)) (n3 : ¬ (c = 130000 ∧ x = D q 4)) (n4 : ¬ (c = 80300 ∧ x = D q 2)) : (itF (riF D q dv dn a1 a2 a3) k 0 τ).1 c x i = τ.1 c x i :=
  itF_ind (f := riF D q dv dn a1 a2 a3) (fun _ s => s.1 c x i = τ.1 c x i) k 0 τ rfl (fun _ _ _ _ h => (ri_i n1 n2 n3 n4).trans h)
theorem rn_o {k c x i : Nat} (n1 : ¬ (c = 330003 ∧ x = a3)) (n2 : ¬ (c = 120003 ∧ x = D q 3)) : (itF (riF D q dv dn a1 a2 a3) k 0 τ).2.1 c x i = τ.2.1 c x i :=
  itF_ind (f := riF D q dv dn a1 a2 a3) (fun _ s => s.2.1 c x i = τ.2.1 c x i) k 0 τ rfl (fun _ _ _ _ h => (ri_o n1 n2).trans h)
theorem rn_k {k : Nat} : (itF (riF D q dv dn a1 a2 a3) k 0 τ).2.2 = τ.2.2 :=
  itF_ind (f := riF D q dv dn a1 a2 a3) (fun _ s => s.2.2 = τ.2.2) k 0 τ rfl (fun _ _ _ _ h => ri_k.trans h)
end RI
/-- what a new message's area has then -/
theorem ar_r {a b1 m c : Nat} : (arP τ a b1 m c).1 60900 m 0 = nI c ∧ (∀ c' x i, ¬ (c' = 60900 ∧ x = m) → ¬ (c' = 90100 ∧ x = a) → ¬ (c' = 90200 ∧ x = a) → (arP τ a b1 m c).1 c' x i = τ.1 c' x i) ∧ (arP τ a b1 m c).2.1 150006 b1 c = some m ∧ (∀ c' x i, ¬ (c' = 150006 ∧ x = b1 ∧ i = c) → (arP τ a b1 m c).2.1 c' x i = τ.2.1 c' x i) ∧ (arP τ a b1 m c).1 90100 a 0 = τ.1 90100 a 0 + τ.1 60400 m 0 ∧ (arP τ a b1 m c).1 90200 a 0 = (if τ.1 60000 m 0 = 2 then τ.1 90200 a 0 + τ.1 60400 m 0 else τ.1 90200 a 0) := by
  unfold arP
  by_cases z : τ.1 60000 m 0 = 2
  · rw [if_pos z, if_pos z]
    refine ⟨by simp [sI, sO], fun c' x i n0 n1 n2 => ?_, by simp [sI, sO], fun c' x i n1 => ?_, by simp [sI, sO], by simp [sI, sO]⟩
    · rw [rIe n2, rIe n1]; show (sI τ _ _ _ _).1 c' x i = _; rw [rIe n0]
    · show (if c' = 150006 ∧ x = b1 ∧ i = c then _ else τ.2.1 c' x i) = _
      exact if_neg n1
  · rw [if_neg z, if_neg z]
    refine ⟨by simp [sI, sO], fun c' x i n0 n1 n2 => ?_, by simp [sI, sO], fun c' x i n1 => ?_, by simp [sI, sO], by simp [sI, sO]⟩
    · rw [rIe n1]; show (sI τ _ _ _ _).1 c' x i = _; rw [rIe n0]
    · show (if c' = 150006 ∧ x = b1 ∧ i = c then _ else τ.2.1 c' x i) = _
      exact if_neg n1
/-- the class's state with the message in it -/
def PD (g : Gh) (p q m c k it L a1 a2 a3 : Nat) (nd : Option Nat) (σ s3 s5 : Sg) : Prop := (σ.2.2.2 m = 0) ∧ (σ.2.2.2 a1 = 0) ∧ (σ.2.2.2 a2 = 0) ∧ (σ.2.2.2 a3 = 0) ∧ (∀ x, s5.2.2.2 x = if x = a3 then 33 else if x = a2 then 32 else if x = a1 then 31 else if x = m then 6 else σ.2.2.2 x) ∧ (s5.2.2.2 m = 6) ∧ (s5.2.2 = s3.2.2) ∧ (∀ c' x i, σ.2.2.2 x ≠ 0 → ¬ (c' = 90100 ∧ x = g.D q 6) → ¬ (c' = 90200 ∧ x = g.D q 6) → ¬ (c' = 130000 ∧ x = g.D q 4) → ¬ (c' = 80300 ∧ x = g.D q 2) → ¬ (c' = 40300 ∧ x = g.D p 8) → ¬ (c' = 40400 ∧ x = g.D p 8) → s5.1 c' x i = σ.1 c' x i) ∧ (∀ c' x i, σ.2.2.2 x ≠ 0 → ¬ (c' = 180003 ∧ x = g.D p 11) → ¬ (c' = 120003 ∧ x = g.D q 3) → ¬ (c' = 150006 ∧ x = g.D q 7 ∧ i = c) → s5.2.1 c' x i = σ.2.1 c' x i) ∧ (∀ c' x i, σ.2.2.2 x ≠ 0 → ¬ (c' = 90100 ∧ x = g.D q 6) → ¬ (c' = 90200 ∧ x = g.D q 6) → s3.1 c' x i = σ.1 c' x i) ∧ (∀ c' x i, σ.2.2.2 x ≠ 0 → ¬ (c' = 180003 ∧ x = g.D p 11) → ¬ (c' = 150006 ∧ x = g.D q 7 ∧ i = c) → s3.2.1 c' x i = σ.2.1 c' x i) ∧ (∀ i, i < it → s3.2.1 180003 (g.D p 11) i = fnV σ g.x (g.D p) i) ∧ (∀ i, s3.2.1 330003 a3 i = none) ∧ (∀ c' x i, c' ≠ 40300 → c' ≠ 40400 → s5.1 c' x i = (itF (riF g.D q (g.D p 10) (g.D p 11) a1 a2 a3) it 0 s3).1 c' x i) ∧ (s5.2.1 = (itF (riF g.D q (g.D p 10) (g.D p 11) a1 a2 a3) it 0 s3).2.1) ∧ (s5.2.1 150006 (g.D q 7) c = some m) ∧ (s5.1 90100 (g.D q 6) 0 = σ.1 90100 (g.D q 6) 0 + nI L) ∧ (s5.1 90200 (g.D q 6) 0 = if k = 2 then σ.1 90200 (g.D q 6) 0 + nI L else σ.1 90200 (g.D q 6) 0) ∧ (s5.1 40300 (g.D p 8) 0 = 0) ∧ (s5.1 40400 (g.D p 8) 0 = 0) ∧ (s5.1 60000 m 0 = nI k) ∧ (s5.1 60100 m 0 = nI p) ∧ (s5.1 60200 m 0 = nI (g.lv p)) ∧ (s5.2.1 60303 m 0 = nd) ∧ (s5.1 60400 m 0 = nI L) ∧ (s5.1 60500 m 0 = nI it) ∧ (s5.2.1 60631 m 0 = some a1) ∧ (s5.2.1 60732 m 0 = some a2) ∧ (s5.2.1 60833 m 0 = some a3) ∧ (s5.1 319900 a1 0 = nI it) ∧ (s5.1 329900 a2 0 = nI it) ∧ (s5.1 339900 a3 0 = nI it) ∧ (s5.1 60900 m 0 = nI c) ∧ (s5.1 61000 m 0 = 0) ∧ (s5.2.1 61106 m 0 = none)
theorem PD.y0 {g : Gh} {p q m c k it L a1 a2 a3 : Nat} {nd : Option Nat} {σ s3 s5 : Sg} (h9 : PD g p q m c k it L a1 a2 a3 nd σ s3 s5) : σ.2.2.2 m = 0 := h9.1
theorem PD.y1 {g : Gh} {p q m c k it L a1 a2 a3 : Nat} {nd : Option Nat} {σ s3 s5 : Sg} (h9 : PD g p q m c k it L a1 a2 a3 nd σ s3 s5) : σ.2.2.2 a1 = 0 := h9.2.1
theorem PD.y2 {g : Gh} {p q m c k it L a1 a2 a3 : Nat} {nd : Option Nat} {σ s3 s5 : Sg} (h9 : PD g p q m c k it L a1 a2 a3 nd σ s3 s5) : σ.2.2.2 a2 = 0 := h9.2.2.1
theorem PD.y3 {g : Gh} {p q m c k it L a1 a2 a3 : Nat} {nd : Option Nat} {σ s3 s5 : Sg} (h9 : PD g p q m c k it L a1 a2 a3 nd σ s3 s5) : σ.2.2.2 a3 = 0 := h9.2.2.2.1
theorem PD.kd {g : Gh} {p q m c k it L a1 a2 a3 : Nat} {nd : Option Nat} {σ s3 s5 : Sg} (h9 : PD g p q m c k it L a1 a2 a3 nd σ s3 s5) : ∀ x, s5.2.2.2 x = if x = a3 then 33 else if x = a2 then 32 else if x = a1 then 31 else if x = m then 6 else σ.2.2.2 x := h9.2.2.2.2.1
theorem PD.km {g : Gh} {p q m c k it L a1 a2 a3 : Nat} {nd : Option Nat} {σ s3 s5 : Sg} (h9 : PD g p q m c k it L a1 a2 a3 nd σ s3 s5) : s5.2.2.2 m = 6 := h9.2.2.2.2.2.1
theorem PD.kk {g : Gh} {p q m c k it L a1 a2 a3 : Nat} {nd : Option Nat} {σ s3 s5 : Sg} (h9 : PD g p q m c k it L a1 a2 a3 nd σ s3 s5) : s5.2.2 = s3.2.2 := h9.2.2.2.2.2.2.1
theorem PD.I {g : Gh} {p q m c k it L a1 a2 a3 : Nat} {nd : Option Nat} {σ s3 s5 : Sg} (h9 : PD g p q m c k it L a1 a2 a3 nd σ s3 s5) : ∀ c' x i, σ.2.2.2 x ≠ 0 → ¬ (c' = 90100 ∧ x = g.D q 6) → ¬ (c' = 90200 ∧ x = g.D q 6) → ¬ (c' = 130000 ∧ x = g.D q 4) → ¬ (c' = 80300 ∧ x = g.D q 2) → ¬ (c' = 40300 ∧ x = g.D p 8) → ¬ (c' = 40400 ∧ x = g.D p 8) → s5.1 c' x i = σ.1 c' x i := h9.2.2.2.2.2.2.2.1
theorem PD.O {g : Gh} {p q m c k it L a1 a2 a3 : Nat} {nd : Option Nat} {σ s3 s5 : Sg} (h9 : PD g p q m c k it L a1 a2 a3 nd σ s3 s5) : ∀ c' x i, σ.2.2.2 x ≠ 0 → ¬ (c' = 180003 ∧ x = g.D p 11) → ¬ (c' = 120003 ∧ x = g.D q 3) → ¬ (c' = 150006 ∧ x = g.D q 7 ∧ i = c) → s5.2.1 c' x i = σ.2.1 c' x i := h9.2.2.2.2.2.2.2.2.1
theorem PD.I3 {g : Gh} {p q m c k it L a1 a2 a3 : Nat} {nd : Option Nat} {σ s3 s5 : Sg} (h9 : PD g p q m c k it L a1 a2 a3 nd σ s3 s5) : ∀ c' x i, σ.2.2.2 x ≠ 0 → ¬ (c' = 90100 ∧ x = g.D q 6) → ¬ (c' = 90200 ∧ x = g.D q 6) → s3.1 c' x i = σ.1 c' x i := h9.2.2.2.2.2.2.2.2.2.1
theorem PD.O3 {g : Gh} {p q m c k it L a1 a2 a3 : Nat} {nd : Option Nat} {σ s3 s5 : Sg} (h9 : PD g p q m c k it L a1 a2 a3 nd σ s3 s5) : ∀ c' x i, σ.2.2.2 x ≠ 0 → ¬ (c' = 180003 ∧ x = g.D p 11) → ¬ (c' = 150006 ∧ x = g.D q 7 ∧ i = c) → s3.2.1 c' x i = σ.2.1 c' x i := h9.2.2.2.2.2.2.2.2.2.2.1
theorem PD.v3 {g : Gh} {p q m c k it L a1 a2 a3 : Nat} {nd : Option Nat} {σ s3 s5 : Sg} (h9 : PD g p q m c k it L a1 a2 a3 nd σ s3 s5) : ∀ i, i < it → s3.2.1 180003 (g.D p 11) i = fnV σ g.x (g.D p) i := h9.2.2.2.2.2.2.2.2.2.2.2.1
theorem PD.n3 {g : Gh} {p q m c k it L a1 a2 a3 : Nat} {nd : Option Nat} {σ s3 s5 : Sg} (h9 : PD g p q m c k it L a1 a2 a3 nd σ s3 s5) : ∀ i, s3.2.1 330003 a3 i = none := h9.2.2.2.2.2.2.2.2.2.2.2.2.1
theorem PD.s35 {g : Gh} {p q m c k it L a1 a2 a3 : Nat} {nd : Option Nat} {σ s3 s5 : Sg} (h9 : PD g p q m c k it L a1 a2 a3 nd σ s3 s5) : ∀ c' x i, c' ≠ 40300 → c' ≠ 40400 → s5.1 c' x i = (itF (riF g.D q (g.D p 10) (g.D p 11) a1 a2 a3) it 0 s3).1 c' x i := h9.2.2.2.2.2.2.2.2.2.2.2.2.2.1
theorem PD.s35o {g : Gh} {p q m c k it L a1 a2 a3 : Nat} {nd : Option Nat} {σ s3 s5 : Sg} (h9 : PD g p q m c k it L a1 a2 a3 nd σ s3 s5) : s5.2.1 = (itF (riF g.D q (g.D p 10) (g.D p 11) a1 a2 a3) it 0 s3).2.1 := h9.2.2.2.2.2.2.2.2.2.2.2.2.2.2.1
theorem PD.o1 {g : Gh} {p q m c k it L a1 a2 a3 : Nat} {nd : Option Nat} {σ s3 s5 : Sg} (h9 : PD g p q m c k it L a1 a2 a3 nd σ s3 s5) : s5.2.1 150006 (g.D q 7) c = some m := h9.2.2.2.2.2.2.2.2.2.2.2.2.2.2.2.1
theorem PD.u1 {g : Gh} {p q m c k it L a1 a2 a3 : Nat} {nd : Option Nat} {σ s3 s5 : Sg} (h9 : PD g p q m c k it L a1 a2 a3 nd σ s3 s5) : s5.1 90100 (g.D q 6) 0 = σ.1 90100 (g.D q 6) 0 + nI L := h9.2.2.2.2.2.2.2.2.2.2.2.2.2.2.2.2.1
theorem PD.u2 {g : Gh} {p q m c k it L a1 a2 a3 : Nat} {nd : Option Nat} {σ s3 s5 : Sg} (h9 : PD g p q m c k it L a1 a2 a3 nd σ s3 s5) : s5.1 90200 (g.D q 6) 0 = if k = 2 then σ.1 90200 (g.D q 6) 0 + nI L else σ.1 90200 (g.D q 6) 0 := h9.2.2.2.2.2.2.2.2.2.2.2.2.2.2.2.2.2.1
theorem PD.d1 {g : Gh} {p q m c k it L a1 a2 a3 : Nat} {nd : Option Nat} {σ s3 s5 : Sg} (h9 : PD g p q m c k it L a1 a2 a3 nd σ s3 s5) : s5.1 40300 (g.D p 8) 0 = 0 := h9.2.2.2.2.2.2.2.2.2.2.2.2.2.2.2.2.2.2.1
theorem PD.d2 {g : Gh} {p q m c k it L a1 a2 a3 : Nat} {nd : Option Nat} {σ s3 s5 : Sg} (h9 : PD g p q m c k it L a1 a2 a3 nd σ s3 s5) : s5.1 40400 (g.D p 8) 0 = 0 := h9.2.2.2.2.2.2.2.2.2.2.2.2.2.2.2.2.2.2.2.1
theorem PD.f0 {g : Gh} {p q m c k it L a1 a2 a3 : Nat} {nd : Option Nat} {σ s3 s5 : Sg} (h9 : PD g p q m c k it L a1 a2 a3 nd σ s3 s5) : s5.1 60000 m 0 = nI k := h9.2.2.2.2.2.2.2.2.2.2.2.2.2.2.2.2.2.2.2.2.1
theorem PD.f1 {g : Gh} {p q m c k it L a1 a2 a3 : Nat} {nd : Option Nat} {σ s3 s5 : Sg} (h9 : PD g p q m c k it L a1 a2 a3 nd σ s3 s5) : s5.1 60100 m 0 = nI p := h9.2.2.2.2.2.2.2.2.2.2.2.2.2.2.2.2.2.2.2.2.2.1
theorem PD.f2 {g : Gh} {p q m c k it L a1 a2 a3 : Nat} {nd : Option Nat} {σ s3 s5 : Sg} (h9 : PD g p q m c k it L a1 a2 a3 nd σ s3 s5) : s5.1 60200 m 0 = nI (g.lv p) := h9.2.2.2.2.2.2.2.2.2.2.2.2.2.2.2.2.2.2.2.2.2.2.1
theorem PD.f3 {g : Gh} {p q m c k it L a1 a2 a3 : Nat} {nd : Option Nat} {σ s3 s5 : Sg} (h9 : PD g p q m c k it L a1 a2 a3 nd σ s3 s5) : s5.2.1 60303 m 0 = nd := h9.2.2.2.2.2.2.2.2.2.2.2.2.2.2.2.2.2.2.2.2.2.2.2.1
theorem PD.f4 {g : Gh} {p q m c k it L a1 a2 a3 : Nat} {nd : Option Nat} {σ s3 s5 : Sg} (h9 : PD g p q m c k it L a1 a2 a3 nd σ s3 s5) : s5.1 60400 m 0 = nI L := h9.2.2.2.2.2.2.2.2.2.2.2.2.2.2.2.2.2.2.2.2.2.2.2.2.1
theorem PD.f5 {g : Gh} {p q m c k it L a1 a2 a3 : Nat} {nd : Option Nat} {σ s3 s5 : Sg} (h9 : PD g p q m c k it L a1 a2 a3 nd σ s3 s5) : s5.1 60500 m 0 = nI it := h9.2.2.2.2.2.2.2.2.2.2.2.2.2.2.2.2.2.2.2.2.2.2.2.2.2.1
theorem PD.f6 {g : Gh} {p q m c k it L a1 a2 a3 : Nat} {nd : Option Nat} {σ s3 s5 : Sg} (h9 : PD g p q m c k it L a1 a2 a3 nd σ s3 s5) : s5.2.1 60631 m 0 = some a1 := h9.2.2.2.2.2.2.2.2.2.2.2.2.2.2.2.2.2.2.2.2.2.2.2.2.2.2.1
theorem PD.f7 {g : Gh} {p q m c k it L a1 a2 a3 : Nat} {nd : Option Nat} {σ s3 s5 : Sg} (h9 : PD g p q m c k it L a1 a2 a3 nd σ s3 s5) : s5.2.1 60732 m 0 = some a2 := h9.2.2.2.2.2.2.2.2.2.2.2.2.2.2.2.2.2.2.2.2.2.2.2.2.2.2.2.1
theorem PD.f8 {g : Gh} {p q m c k it L a1 a2 a3 : Nat} {nd : Option Nat} {σ s3 s5 : Sg} (h9 : PD g p q m c k it L a1 a2 a3 nd σ s3 s5) : s5.2.1 60833 m 0 = some a3 := h9.2.2.2.2.2.2.2.2.2.2.2.2.2.2.2.2.2.2.2.2.2.2.2.2.2.2.2.2.1
theorem PD.f6l {g : Gh} {p q m c k it L a1 a2 a3 : Nat} {nd : Option Nat} {σ s3 s5 : Sg} (h9 : PD g p q m c k it L a1 a2 a3 nd σ s3 s5) : s5.1 319900 a1 0 = nI it := h9.2.2.2.2.2.2.2.2.2.2.2.2.2.2.2.2.2.2.2.2.2.2.2.2.2.2.2.2.2.1
theorem PD.f7l {g : Gh} {p q m c k it L a1 a2 a3 : Nat} {nd : Option Nat} {σ s3 s5 : Sg} (h9 : PD g p q m c k it L a1 a2 a3 nd σ s3 s5) : s5.1 329900 a2 0 = nI it := h9.2.2.2.2.2.2.2.2.2.2.2.2.2.2.2.2.2.2.2.2.2.2.2.2.2.2.2.2.2.2.1
theorem PD.f8l {g : Gh} {p q m c k it L a1 a2 a3 : Nat} {nd : Option Nat} {σ s3 s5 : Sg} (h9 : PD g p q m c k it L a1 a2 a3 nd σ s3 s5) : s5.1 339900 a3 0 = nI it := h9.2.2.2.2.2.2.2.2.2.2.2.2.2.2.2.2.2.2.2.2.2.2.2.2.2.2.2.2.2.2.2.1
theorem PD.f9 {g : Gh} {p q m c k it L a1 a2 a3 : Nat} {nd : Option Nat} {σ s3 s5 : Sg} (h9 : PD g p q m c k it L a1 a2 a3 nd σ s3 s5) : s5.1 60900 m 0 = nI c := h9.2.2.2.2.2.2.2.2.2.2.2.2.2.2.2.2.2.2.2.2.2.2.2.2.2.2.2.2.2.2.2.2.1
theorem PD.f10 {g : Gh} {p q m c k it L a1 a2 a3 : Nat} {nd : Option Nat} {σ s3 s5 : Sg} (h9 : PD g p q m c k it L a1 a2 a3 nd σ s3 s5) : s5.1 61000 m 0 = 0 := h9.2.2.2.2.2.2.2.2.2.2.2.2.2.2.2.2.2.2.2.2.2.2.2.2.2.2.2.2.2.2.2.2.2.1
theorem PD.f11 {g : Gh} {p q m c k it L a1 a2 a3 : Nat} {nd : Option Nat} {σ s3 s5 : Sg} (h9 : PD g p q m c k it L a1 a2 a3 nd σ s3 s5) : s5.2.1 61106 m 0 = none := h9.2.2.2.2.2.2.2.2.2.2.2.2.2.2.2.2.2.2.2.2.2.2.2.2.2.2.2.2.2.2.2.2.2.2
theorem PD.mk {g : Gh} {p q m c k it L a1 a2 a3 : Nat} {nd : Option Nat} {σ s3 s5 : Sg} (y0 : σ.2.2.2 m = 0) (y1 : σ.2.2.2 a1 = 0) (y2 : σ.2.2.2 a2 = 0) (y3 : σ.2.2.2 a3 = 0) (kd : ∀ x, s5.2.2.2 x = if x = a3 then 33 else if x = a2 then 32 else if x = a1 then 31 else if x = m then 6 else σ.2.2.2 x) (km : s5.2.2.2 m = 6) (kk : s5.2.2 = s3.2.2) (I : ∀ c' x i, σ.2.2.2 x ≠ 0 → ¬ (c' = 90100 ∧ x = g.D q 6) → ¬ (c' = 90200 ∧ x = g.D q 6) → ¬ (c' = 130000 ∧ x = g.D q 4) → ¬ (c' = 80300 ∧ x = g.D q 2) → ¬ (c' = 40300 ∧ x = g.D p 8) → ¬ (c' = 40400 ∧ x = g.D p 8) → s5.1 c' x i = σ.1 c' x i) (O : ∀ c' x i, σ.2.2.2 x ≠ 0 → ¬ (c' = 180003 ∧ x = g.D p 11) → ¬ (c' = 120003 ∧ x = g.D q 3) → ¬ (c' = 150006 ∧ x = g.D q 7 ∧ i = c) → s5.2.1 c' x i = σ.2.1 c' x i) (I3 : ∀ c' x i, σ.2.2.2 x ≠ 0 → ¬ (c' = 90100 ∧ x = g.D q 6) → ¬ (c' = 90200 ∧ x = g.D q 6) → s3.1 c' x i = σ.1 c' x i) (O3 : ∀ c' x i, σ.2.2.2 x ≠ 0 → ¬ (c' = 180003 ∧ x = g.D p 11) → ¬ (c' = 150006 ∧ x = g.D q 7 ∧ i = c) → s3.2.1 c' x i = σ.2.1 c' x i) (v3 : ∀ i, i < it → s3.2.1 180003 (g.D p 11) i = fnV σ g.x (g.D p) i) (n3 : ∀ i, s3.2.1 330003 a3 i = none) (s35 : ∀ c' x i, c' ≠ 40300 → c' ≠ 40400 → s5.1 c' x i = (itF (riF g.D q (g.D p 10) (g.D p 11) a1 a2 a3) it 0 s3).1 c' x i) (s35o : s5.2.1 = (itF (riF g.D q (g.D p 10) (g.D p 11) a1 a2 a3) it 0 s3).2.1) (o1 : s5.2.1 150006 (g.D q 7) c = some m) (u1 : s5.1 90100 (g.D q 6) 0 = σ.1 90100 (g.D q 6) 0 + nI L) (u2 : s5.1 90200 (g.D q 6) 0 = if k = 2 then σ.1 90200 (g.D q 6) 0 + nI L else σ.1 90200 (g.D q 6) 0) (d1 : s5.1 40300 (g.D p 8) 0 = 0) (d2 : s5.1 40400 (g.D p 8) 0 = 0) (f0 : s5.1 60000 m 0 = nI k) (f1 : s5.1 60100 m 0 = nI p) (f2 : s5.1 60200 m 0 = nI (g.lv p)) (f3 : s5.2.1 60303 m 0 = nd) (f4 : s5.1 60400 m 0 = nI L) (f5 : s5.1 60500 m 0 = nI it) (f6 : s5.2.1 60631 m 0 = some a1) (f7 : s5.2.1 60732 m 0 = some a2) (f8 : s5.2.1 60833 m 0 = some a3) (f6l : s5.1 319900 a1 0 = nI it) (f7l : s5.1 329900 a2 0 = nI it) (f8l : s5.1 339900 a3 0 = nI it) (f9 : s5.1 60900 m 0 = nI c) (f10 : s5.1 61000 m 0 = 0) (f11 : s5.2.1 61106 m 0 = none) : PD g p q m c k it L a1 a2 a3 nd σ s3 s5 := ⟨y0, y1, y2, y3, kd, km, kk, I, O, I3, O3, v3, n3, s35, s35o, o1, u1, u2, d1, d2, f0, f1, f2, f3, f4, f5, f6, f7, f8, f6l, f7l, f8l, f9, f10, f11⟩
section PD1
variable {p q m c k it z a1 a2 a3 : Nat} {nd : Option Nat}
set_option maxHeartbeats 1000000 in
theorem pd_of (R : RR E g n σ) (hp : p < 4) (ha : al g σ p) (hq : q < 4) (hk : σ.1 40300 (g.D p 8) 0 = nI it) (hk4 : it ≤ 4) (hz : σ.1 40400 (g.D p 8) 0 = nI z) (hz4 : z ≤ 20) (hkk : k ≤ 3)
    (hf : pstF E (pstN σ g.x g.D p it) m a1 a2 a3 g.D p it (nI k) nd) : PD g p q m c k it (max 1 (it + z)) a1 a2 a3 nd σ (arP (pst2 (pstN σ g.x g.D p it) g.D p it m (nI k) nd a1 a2 a3) (g.D q 6) (g.D q 7) m c) (pst5 (pstN σ g.x g.D p it) g.D p q it m (nI k) nd a1 a2 a3 c) := by
  obtain ⟨N1, N2, N3, N4, N5⟩ := pstN_r (σ := σ) (x := g.x) (j := p) (k := it) (D := g.D)
  obtain ⟨h0, h0e, h1, h1e, h2, h2e, h3, h3e⟩ := hf
  have hm6 : (sN (pstN σ g.x g.D p it) m 6).2.2.2 m = 6 := if_pos rfl
  obtain ⟨e1, e2, e3, e4, e5, e6, z2, z3⟩ := msB_d hm6 h1 h2 h3
  obtain ⟨u1, u2, u3, u4, u5, u6⟩ := msB_f (σ := sN (pstN σ g.x g.D p it) m 6) (s := g.D p 8) (it := it) (k := nI k) (x := (sN (pstN σ g.x g.D p it) m 6).1 20000 (g.D p 0) 0) (y := (sN (pstN σ g.x g.D p it) m 6).1 20900 (g.D p 0) 0) (nd := nd) ⟨e1, e2, e3, e4, e5, e6⟩
  obtain ⟨u7, u8, u9, u10, u11, u12⟩ := msB_g (σ := sN (pstN σ g.x g.D p it) m 6) (s := g.D p 8) (it := it) (k := nI k) (x := (sN (pstN σ g.x g.D p it) m 6).1 20000 (g.D p 0) 0) (y := (sN (pstN σ g.x g.D p it) m 6).1 20900 (g.D p 0) 0) (nd := nd) ⟨e1, e2, e3, e4, e5, e6⟩
  have ov := fun {b : Nat} (d0 : b ≠ m) (d1 : b ≠ a1) (d2 : b ≠ a2) (d3 : b ≠ a3) c i => msB_o (σ := sN (pstN σ g.x g.D p it) m 6) (s := g.D p 8) (it := it) (k := nI k) (x := (sN (pstN σ g.x g.D p it) m 6).1 20000 (g.D p 0) 0) (y := (sN (pstN σ g.x g.D p it) m 6).1 20900 (g.D p 0) 0) (nd := nd) d0 d1 d2 d3 c i
  have w0 : σ.2.2.2 m = 0 := by rw [← N2]; exact h0
  have kn : ∀ {b}, b ≠ m → (sN (pstN σ g.x g.D p it) m 6).2.2.2 b = σ.2.2.2 b := fun hb => by
    rw [← N2]; exact if_neg hb
  have w1 : σ.2.2.2 a1 = 0 := by rw [← kn e1.symm]; exact h1
  have w2 : σ.2.2.2 a2 = 0 := by rw [← kn e2.symm]; exact z2
  have w3 : σ.2.2.2 a3 = 0 := by rw [← kn e3.symm]; exact z3
  have nf : ∀ {b x}, σ.2.2.2 b ≠ 0 → σ.2.2.2 x = 0 → b ≠ x := fun h1 h2 e => h1 (by rw [e]; exact h2)
  have sn : ∀ {b} (c i : Nat), b ≠ m → (sN (pstN σ g.x g.D p it) m 6).1 c b i = σ.1 c b i ∧ (sN (pstN σ g.x g.D p it) m 6).2.1 c b i = (pstN σ g.x g.D p it).2.1 c b i := fun c i hb => ⟨by rw [← N1]; exact if_neg hb, if_neg hb⟩
  have s2d : ∃ s2, s2 = pst2 (pstN σ g.x g.D p it) g.D p it m (nI k) nd a1 a2 a3 := ⟨_, rfl⟩
  obtain ⟨s2, es2⟩ := s2d
  have es2' : s2 = msB (sN (pstN σ g.x g.D p it) m 6) m (g.D p 8) it (nI k) ((sN (pstN σ g.x g.D p it) m 6).1 20000 (g.D p 0) 0) ((sN (pstN σ g.x g.D p it) m 6).1 20900 (g.D p 0) 0) nd a1 a2 a3 := es2
  rw [← es2'] at u1 u2 u3 u4 u5 u6 u7 u8 u9 u10 u11 u12
  have o2 : ∀ {b} (c i : Nat), σ.2.2.2 b ≠ 0 → s2.1 c b i = σ.1 c b i ∧ s2.2.1 c b i = (pstN σ g.x g.D p it).2.1 c b i := fun {b} c i hb => by
    have h9 := ov (nf hb w0) (nf hb w1) (nf hb w2) (nf hb w3) c i
    rw [← es2'] at h9
    have h8 := sn (b := b) c i (nf hb w0)
    exact ⟨h9.1.trans h8.1, h9.2.trans h8.2⟩
  have hD : ∀ {r j}, r < 4 → j < 15 → σ.2.2.2 (g.D r j) ≠ 0 := fun hr hj => R.s.kD hr hj
  obtain ⟨-, -, lv1, -, -⟩ := R.p p hp
  have ecel : celF (sN (pstN σ g.x g.D p it) m 6) (g.D p 8) = nI (max 1 (it + z)) := by
    have hne : g.D p 8 ≠ m := nf (hD hp (by decide)) w0
    exact cel_eq (by rw [(sn _ _ hne).1]; exact hk) (by rw [(sn _ _ hne).1]; exact hz) hk4 hz4
  have ka : ∀ x, s2.2.2.2 x = if x = a3 then 33 else if x = a2 then 32 else if x = a1 then 31 else if x = m then 6 else σ.2.2.2 x := fun x => by
    rw [es2', ← N2]; rfl
  have f10 : s2.1 61000 m 0 = 0 ∧ s2.2.1 61106 m 0 = none := by
    rw [es2']; constructor <;> simp [msB, msA, sA, sI, sO, sN, e1, e2, e3]
  have n3 : ∀ i, s2.2.1 330003 a3 i = none := fun i => by
    rw [es2']; simp [msB, msA, sA, sI, sO, sN, e3.symm]
  rw [← es2]
  obtain ⟨r1, r2, r3, r4, r5, r6⟩ := ar_r (τ := s2) (a := g.D q 6) (b1 := g.D q 7) (m := m) (c := c)
  have hp5 : pst5 (pstN σ g.x g.D p it) g.D p q it m (nI k) nd a1 a2 a3 c = sI (sI (itF (riF g.D q (g.D p 10) (g.D p 11) a1 a2 a3) it 0 (arP s2 (g.D q 6) (g.D q 7) m c)) 40400 (g.D p 8) 0 0) 40300 (g.D p 8) 0 0 := by rw [es2]; rfl
  rw [hp5]
  have hs3 : ∃ s3, s3 = arP s2 (g.D q 6) (g.D q 7) m c := ⟨_, rfl⟩
  obtain ⟨s3, es3⟩ := hs3
  rw [← es3] at r1 r2 r3 r4 r5 r6
  rw [← es3]
  have k3 : s3.2.2 = s2.2.2 := by rw [es3]; exact arP_k
  have hs4 : ∃ s4, s4 = itF (riF g.D q (g.D p 10) (g.D p 11) a1 a2 a3) it 0 s3 := ⟨_, rfl⟩
  obtain ⟨s4, es4⟩ := hs4
  have i4 : ∀ {c' x i}, ¬ (c' = 310000 ∧ x = a1) → ¬ (c' = 320000 ∧ x = a2) → ¬ (c' = 130000 ∧ x = g.D q 4) → ¬ (c' = 80300 ∧ x = g.D q 2) → s4.1 c' x i = s3.1 c' x i := fun n1 n2 n3 n4 => by rw [es4]; exact rn_i n1 n2 n3 n4
  have o4 : ∀ {c' x i}, ¬ (c' = 330003 ∧ x = a3) → ¬ (c' = 120003 ∧ x = g.D q 3) → s4.2.1 c' x i = s3.2.1 c' x i := fun n1 n2 => by rw [es4]; exact rn_o n1 n2
  have k4 : s4.2.2 = s3.2.2 := by rw [es4]; exact rn_k
  rw [← es4]
  have i5 : ∀ {c' x i}, ¬ (c' = 40300 ∧ x = g.D p 8) → ¬ (c' = 40400 ∧ x = g.D p 8) → (sI (sI s4 40400 (g.D p 8) 0 0) 40300 (g.D p 8) 0 0).1 c' x i = s4.1 c' x i := fun n1 n2 => by rw [rIe n1, rIe n2]
  have k5 : (sI (sI s4 40400 (g.D p 8) 0 0) 40300 (g.D p 8) 0 0).2 = s4.2 := rfl
  have fI : ∀ {c' x i}, c' ≠ 310000 → c' ≠ 320000 → c' ≠ 130000 → c' ≠ 80300 → c' ≠ 40300 → c' ≠ 40400 → c' ≠ 90100 → c' ≠ 90200 → ¬ (c' = 60900 ∧ x = m) → (sI (sI s4 40400 (g.D p 8) 0 0) 40300 (g.D p 8) 0 0).1 c' x i = s2.1 c' x i := fun n1 n2 n3 n4 n5 n6 n7 n8 n9 => by
    rw [i5 (fun h => n5 h.1) (fun h => n6 h.1), i4 (fun h => n1 h.1) (fun h => n2 h.1) (fun h => n3 h.1) (fun h => n4 h.1), r2 _ _ _ n9 (fun h => n7 h.1) (fun h => n8 h.1)]
  have fO : ∀ {c' x i}, c' ≠ 330003 → c' ≠ 120003 → c' ≠ 150006 → (sI (sI s4 40400 (g.D p 8) 0 0) 40300 (g.D p 8) 0 0).2.1 c' x i = s2.2.1 c' x i := fun n1 n2 n3 => by
    show s4.2.1 _ _ _ = _
    rw [o4 (fun h => n1 h.1) (fun h => n2 h.1), r4 _ _ _ (fun h => n3 h.1)]
  have d6 : s2.1 90100 (g.D q 6) 0 = σ.1 90100 (g.D q 6) 0 ∧ s2.1 90200 (g.D q 6) 0 = σ.1 90200 (g.D q 6) 0 := ⟨(o2 _ _ (hD hq (by decide))).1, (o2 _ _ (hD hq (by decide))).1⟩
  have u5' : s2.1 60400 m 0 = nI (max 1 (it + z)) := u5.trans ecel
  have kk2 : nI k = 2 ↔ k = 2 := nI_eq (b := 2) (by omega) (by omega)
  unfold PD
  exact ⟨(w0),
    (w1),
    (w2),
    (w3),
    (fun x => by rw [k5, k4, k3]; exact ka x),
    ((by rw [k5, k4, k3, ka, if_neg e3, if_neg e2, if_neg e1, if_pos rfl])),
    ((by rw [k5]; exact k4)),
    (fun c' x i hx n1 n2 n3 n4 n5 n6 => by
      rw [i5 n5 n6, i4 (fun h => nf hx w1 h.2) (fun h => nf hx w2 h.2) n3 n4, r2 _ _ _ (fun h => nf hx w0 h.2) n1 n2]
      exact (o2 _ _ hx).1),
    (fun c' x i hx n1 n2 n3 => by
      show s4.2.1 _ _ _ = _
      rw [o4 (fun h => nf hx w3 h.2) n2, r4 _ _ _ n3, (o2 _ _ hx).2]
      by_cases e : c' = 180003
      · subst e; exact N4 _ _ (fun h => n1 ⟨rfl, h⟩)
      · exact N3 _ _ _ e),
    (fun c' x i hx n1 n2 => by
      rw [r2 _ _ _ (fun h => nf hx w0 h.2) n1 n2]
      exact (o2 _ _ hx).1),
    (fun c' x i hx n1 n3 => by
      rw [r4 _ _ _ n3, (o2 _ _ hx).2]
      by_cases e : c' = 180003
      · subst e; exact N4 _ _ (fun h => n1 ⟨rfl, h⟩)
      · exact N3 _ _ _ e),
    (fun i hi => by
      rw [r4 _ _ _ (fun h => absurd h.1 (by decide)), (o2 _ _ (hD hp (by decide))).2]; exact N5 i hi),
    (fun i => by
      rw [r4 _ _ _ (fun h => absurd h.1 (by decide))]; exact n3 i),
    (fun c' x i n1 n2 => (i5 (fun h => n1 h.1) (fun h => n2 h.1)).trans (by rw [es4])),
    ((by rw [k5, es4])),
    ((by show s4.2.1 _ _ _ = _; rw [o4 (fun h => absurd h.1 (by decide)) (fun h => absurd h.1 (by decide))]; exact r3)),
    ((by rw [i5 (fun h => absurd h.1 (by decide)) (fun h => absurd h.1 (by decide)), i4 (fun h => absurd h.1 (by decide)) (fun h => absurd h.1 (by decide)) (fun h => absurd h.1 (by decide)) (fun h => absurd h.1 (by decide)), r5, d6.1, u5'])),
    ((by
      rw [i5 (fun h => absurd h.1 (by decide)) (fun h => absurd h.1 (by decide)), i4 (fun h => absurd h.1 (by decide)) (fun h => absurd h.1 (by decide)) (fun h => absurd h.1 (by decide)) (fun h => absurd h.1 (by decide)), r6, d6.2, u5', u1]
      by_cases y : k = 2
      · rw [if_pos y, if_pos (kk2.mpr y)]
      · rw [if_neg y, if_neg (fun h => y (kk2.mp h))])),
    (rIs),
    ((by rw [rII (by decide)]; exact rIs)),
    ((by rw [fI (by decide) (by decide) (by decide) (by decide) (by decide) (by decide) (by decide) (by decide) (fun h => absurd h.1 (by decide))]; exact u1)),
    ((by rw [fI (by decide) (by decide) (by decide) (by decide) (by decide) (by decide) (by decide) (by decide) (fun h => absurd h.1 (by decide)), u2, (sn _ _ (nf (hD hp (by decide)) w0)).1]; exact R.s.nm p hp)),
    ((by rw [fI (by decide) (by decide) (by decide) (by decide) (by decide) (by decide) (by decide) (by decide) (fun h => absurd h.1 (by decide)), u3, (sn _ _ (nf (hD hp (by decide)) w0)).1]; exact lv1)),
    ((by rw [fO (by decide) (by decide) (by decide)]; exact u4)),
    ((by rw [fI (by decide) (by decide) (by decide) (by decide) (by decide) (by decide) (by decide) (by decide) (fun h => absurd h.1 (by decide))]; exact u5')),
    ((by rw [fI (by decide) (by decide) (by decide) (by decide) (by decide) (by decide) (by decide) (by decide) (fun h => absurd h.1 (by decide))]; exact u6)),
    ((by rw [fO (by decide) (by decide) (by decide)]; exact u7)),
    ((by rw [fO (by decide) (by decide) (by decide)]; exact u8)),
    ((by rw [fO (by decide) (by decide) (by decide)]; exact u9)),
    ((by rw [fI (by decide) (by decide) (by decide) (by decide) (by decide) (by decide) (by decide) (by decide) (fun h => absurd h.1 (by decide))]; exact u10)),
    ((by rw [fI (by decide) (by decide) (by decide) (by decide) (by decide) (by decide) (by decide) (by decide) (fun h => absurd h.1 (by decide))]; exact u11)),
    ((by rw [fI (by decide) (by decide) (by decide) (by decide) (by decide) (by decide) (by decide) (by decide) (fun h => absurd h.1 (by decide))]; exact u12)),
    ((by rw [i5 (fun h => absurd h.1 (by decide)) (fun h => absurd h.1 (by decide)), i4 (fun h => absurd h.1 (by decide)) (fun h => absurd h.1 (by decide)) (fun h => absurd h.1 (by decide)) (fun h => absurd h.1 (by decide))]; exact r1)),
    ((by rw [fI (by decide) (by decide) (by decide) (by decide) (by decide) (by decide) (by decide) (by decide) (fun h => absurd h.1 (by decide))]; exact f10.1)),
    ((by rw [fO (by decide) (by decide) (by decide)]; exact f10.2))⟩
end PD1
end PDS
