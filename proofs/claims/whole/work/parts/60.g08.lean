section FRM
variable {E : FE} {g : Gh} {σ σ' : Sg} {K J : Nat → Bool} {n : Nat}
theorem LLx.fr {k ka tk : Nat} {ad : Nat → Nat} {L : Nat → List Nat} {AR : Nat → Nat} (h : LLx E k ka tk ad L AR σ) (F : Fr K J σ σ') (hfe : σ'.2.2.2 (fe E) = 0) (hk0 : k ≠ 0) (hka0 : ka ≠ 0) (hK : ([10000 * k + 100, 10000 * k + 200, 10000 * ka + 9900, 10000 * ka + tk].all fun c => !K c) = true) : LLx E k ka tk ad L AR σ' := by
  simp only [List.all_cons, List.all_nil, Bool.and_true, Bool.and_eq_true, Bool.not_eq_true'] at hK
  obtain ⟨k1, k2, k3, k4⟩ := hK
  obtain ⟨h0, h1, h2⟩ := h
  refine ⟨hfe, fun p hp => ?_, h2⟩
  obtain ⟨g1, g2, g3, g4, g5⟩ := h1 p hp
  have z : σ.2.2.2 (ad p) ≠ 0 := by rw [g1]; exact hk0
  refine ⟨by rw [F.1 _ z]; exact g1, by rw [(F.2.2 _ _ _ z k1).2]; exact g2, by rw [(F.2.2 _ _ _ z k2).1]; exact g3, g4, ?_⟩
  rcases g5 with g5 | ⟨f1, f2, f3, f4, f5⟩
  · exact Or.inl g5
  · have z2 : σ.2.2.2 (AR p) ≠ 0 := by rw [f1]; exact hka0
    have hl : lnK ka σ' (AR p) = lnK ka σ (AR p) := by unfold lnK; rw [(F.2.2 _ _ _ z2 k3).1]
    exact Or.inr ⟨by rw [F.1 _ z2]; exact f1, by rw [hl]; exact f2, by rw [hl]; exact f3, by rw [hl]; exact f4, fun i b hb => by rw [(F.2.2 _ _ _ z2 k4).2]; exact f5 i b hb⟩
/-- shapes, with new lists -/
theorem RS.fr {g' : Gh} (s : RS E g σ) (F : Fr K J σ σ') (hw : WF σ') (hK : ((List.range 14).all fun j => !K (shc j).1) = true) (hK2 : ((List.range 31).all fun j => !K (mcd j)) = true) (hK3 : ([10010, 100002, 20000].all fun c => !K c) = true)
    (e1 : g'.x = g.x) (e2 : g'.a0 = g.a0) (e3 : g'.m = g.m) (e4 : g'.D = g.D) (e5 : g'.A = g.A)
    (l1 : ∃ AR, LLx E 20 41 5 (fun p => g.D p 12) g'.L1 AR σ') (l2 : ∃ AR, LLx E 21 42 6 (fun p => g.D p 13) g'.L2 AR σ') (l3 : ∃ AR, LLx E 22 43 7 (fun p => g.D p 14) g'.L3 AR σ') : RS E g' σ' := by
  simp only [List.all_cons, List.all_nil, Bool.and_true, Bool.and_eq_true, Bool.not_eq_true'] at hK3
  have q1 : ∀ j, j < 14 → K (shc j).1 = false := fun j hj => by
    have := List.all_eq_true.mp hK j (List.mem_range.mpr hj); simpa using this
  have q2 : ∀ j, j < 31 → K (mcd j) = false := fun j hj => by
    have := List.all_eq_true.mp hK2 j (List.mem_range.mpr hj); simpa using this
  have e6 : ∀ j, j < 14 → (shc j).2.1 < 15 := by decide
  have ka0 : σ.2.2.2 g.a0 ≠ 0 := by rw [s.wf _ _ _ _ s.x2 (by decide)]; decide
  exact RS.mk
          (wf := hw)
          (mo := by rw [e3, e5]; exact ⟨by rw [F.1 _ s.km]; exact s.mo.1, fun j hj => ⟨by rw [(F.2.2 _ _ _ s.km (q2 j hj)).2]; exact (s.mo.2 j hj).1, by rw [F.1 _ (s.kA hj)]; exact (s.mo.2 j hj).2⟩⟩)
          (sh := by rw [e4]; exact fun p hp => ⟨by rw [F.1 _ (s.kD hp (by decide))]; exact (s.sh p hp).1, fun j hj => by rw [(F.2.2 _ _ _ (s.kD hp (e6 j hj)) (q1 j hj)).2]; exact (s.sh p hp).2 j hj⟩)
          (dj := by rw [e4]; exact s.dj)
          (x1 := by rw [e1, F.1 _ s.kx]; exact s.x1)
          (x2 := by rw [e1, e2, (F.2.2 _ _ _ s.kx hK3.1).2]; exact s.x2)
          (x3 := by rw [e2, e4]; exact fun p hp => by rw [(F.2.2 _ _ _ ka0 hK3.2.1).2]; exact s.x3 p hp)
          (nm := by rw [e4]; exact fun p hp => by rw [(F.2.2 _ _ _ (s.kD hp (by decide)) hK3.2.2).1]; exact s.nm p hp)
          (l1 := by rw [e4]; exact l1)
          (l2 := by rw [e4]; exact l2)
          (l3 := by rw [e4]; exact l3)
/-- .. where no list changed -/
theorem RS.fr0 (s : RS E g σ) (F : Fr K J σ σ') (hw : WF σ') (hfe : σ'.2.2.2 (fe E) = 0) (hK : ((List.range 14).all fun j => !K (shc j).1) = true) (hK2 : ((List.range 31).all fun j => !K (mcd j)) = true) (hK3 : ([10010, 100002, 20000].all fun c => !K c) = true)
    (hK4 : ([200100, 200200, 419900, 410005, 210100, 210200, 429900, 420006, 220100, 220200, 439900, 430007].all fun c => !K c) = true) : RS E g σ' := by
  simp only [List.all_cons, List.all_nil, Bool.and_true, Bool.and_eq_true, Bool.not_eq_true'] at hK4
  obtain ⟨A1, l1⟩ := s.l1
  obtain ⟨A2, l2⟩ := s.l2
  obtain ⟨A3, l3⟩ := s.l3
  refine s.fr F hw hK hK2 hK3 rfl rfl rfl rfl rfl ⟨A1, l1.fr F hfe (by decide) (by decide) ?_⟩ ⟨A2, l2.fr F hfe (by decide) (by decide) ?_⟩ ⟨A3, l3.fr F hfe (by decide) (by decide) ?_⟩ <;> simp [hK4]
theorem RS.f0 (s : RS E g σ) : σ.2.2.2 (fe E) = 0 := by obtain ⟨_, h⟩ := s.l1; exact h.1
theorem RP.mono {n' : Nat} (h : RP g n σ) (hn : n ≤ n') : RP g n' σ := fun p hp => by
  obtain ⟨a, b, c, d, e⟩ := h p hp
  exact ⟨a, b, c, d, by omega⟩
theorem RH.mono {p n' : Nat} (h : RH g n p σ) (hn : n ≤ n') : RH g n' p σ := ⟨fun ha => ⟨(h.1 ha).1.mono (by omega), (h.1 ha).2⟩, h.2⟩
theorem RR.mono {n' : Nat} (R : RR E g n σ) (hn : n ≤ n') : RR E g n' σ :=
  RR.mk (s := R.s) (p := R.p.mono hn) (no := R.no) (mg := R.mg) (h := fun p hp => (R.h p hp).mono hn) (d := R.d) (a := R.a) (i := R.i) (o := R.o) (v := R.v) (l := R.l) (q := R.q) (c := R.c) (b := R.b) (t := by obtain ⟨T, a, b⟩ := R.t; exact ⟨T, a, by omega⟩)
theorem RR.th (R : RR E g n σ) (v : Int32) : RR E g n (sI σ 500000 g.m 0 v) := by
  have F : Fr (fun k => k == 500000) (fun _ => false) σ (sI σ 500000 g.m 0 v) := Fr.i
  have hw' : WF (sI σ 500000 g.m 0 v) := R.s.wf
  have hfe' := R.s.f0
  exact RR.mk
          (s := R.s.fr0 F hw' hfe' (by decide) (by decide) (by decide) (by decide))
          (p := R.p.fr R.s F (by decide))
          (no := R.no.fr R.s F (by decide) (by decide))
          (mg := R.mg.fr R.s F (by decide))
          (h := fun p hp => (R.h p hp).fr hp R.s (F.at _ p) (by decide))
          (d := fun p hp => (R.d p hp).fr hp R.s (F.at _ p) (by decide))
          (a := fun p hp => (R.a p hp).fr hp R.s (F.at _ p) (by decide) (by decide))
          (i := fun p hp => (R.i p hp).fr hp R.s (fun c m h1 h2 _ => RBn.of R.a p c m hp h1 h2) (F.at _ p) (by decide))
          (o := fun p hp => (R.o p hp).fr hp R.s (F.at _ p) (by decide))
          (v := fun p hp => (R.v p hp).fr hp R.s (F.at _ p) (by decide))
          (l := fun p hp => (R.l p hp).fr hp R.s (F.at _ p) (by decide) (by decide))
          (q := R.q.fr R.s (RBn.of R.a) F (by decide) (by decide) (by decide))
          (c := R.c.fr R.s F (by decide) (by decide))
          (b := R.b.fr R.s F (by decide) (by decide))
          (t := by obtain ⟨T9, t1, t2⟩ := R.t; exact ⟨T9, by rw [(F.2.2 _ _ _ R.s.km (by decide)).1]; exact t1, t2⟩)
end FRM
