/-! the model: send, reply, die -/
def msnM (σ : Sg) (m : Nat) (A : Nat → Nat) (p q : Nat) (x w : Int32) : Int32 := if w = 0 then 0 else if itF (bsyF (σ.1 610000 (A 10)) (σ.1 640000 (A 13)) (σ.1 650000 (A 14)) (tgtF σ m A p x)) 64 (64 * q) 0 = 0 then 0 else 1
def msnS (σ : Sg) (m : Nat) (A : Nat → Nat) (p : Nat) (x w : Int32) (q b n z W : Nat) (t y : Int32) : Sg := if y = 0 then cmS (mvS (sI σ 500000 m 0 0) m A p q b n z w (tgtF σ m A p x) t) A q W (if w = 0 then 1 else 2) (nI b) (tgtF σ m A p x - tgtF σ m A p x / 10 * 10) (nI p) 0 else sI (mvS (sI σ 500000 m 0 0) m A p q b n z w (tgtF σ m A p x) t) 610000 (A 10) b 1
def msnF (σ : Sg) (m : Nat) (A : Nat → Nat) (p : Nat) (x w : Int32) (q b n z W : Nat) (t : Int32) : Int32 × Sg :=
  if tgtF σ m A p x < 0 then (-1, sI σ 500000 m 0 0) else if ¬ dedI (σ.1 510000 (A 0)) (σ.1 520000 (A 1)) (tgtF σ m A p x) = 0 then (-2, sI σ 500000 m 0 0) else if w = 0 ∧ ¬ σ.1 770000 (A 26) p = 0 then (-5, sI σ 500000 m 0 0) else if ¬ itF (badF σ m A p) n 0 0 = 0 then (-3, sI σ 500000 m 0 0)
  else if ¬ flF σ m A p q n z w (msnM σ m A p q x w) t = 0 then (-4, sI σ 500000 m 0 0) else (0, sI (msnS σ m A p x w q b n z W t (msnM σ m A p q x w)) 770000 (A 26) p (if ¬ σ.1 770000 (A 26) p = 0 then 1 else if w = 0 then 1 else 0))
theorem mv1_w {A : Nat → Nat} {m p b k c : Nat} {τ : Sg} (h1 : c ≠ 710000) (a x : Nat) : (mv1 A m p b k τ).1 c a x = τ.1 c a x := rII h1
theorem mvS_w {σ : Sg} {m : Nat} {A : Nat → Nat} {p q b n z c : Nat} {w v t : Int32} (h : c ∉ [610000, 620000, 630000, 640000, 650000, 660000, 670000, 502300, 680000, 710000, 690000, 700000, 550000, 540000, 570000, 580000]) (a x : Nat) : (mvS σ m A p q b n z w v t).1 c a x = σ.1 c a x := by
  simp only [List.mem_cons, List.not_mem_nil, or_false, not_or] at h
  obtain ⟨h1, h2, h3, h4, h5, h6, h7, h8, h9, h10, h11, h12, h13, h14, h15, h16⟩ := h
  unfold mvS
  rw [rII h16, rII h15]
  have e1 : ∀ (k i : Nat) (τ : Sg), (itF (mv2 A p q b) k i τ).1 c a x = τ.1 c a x := by
    intro k; induction k with
    | zero => intro i τ; rfl
    | succ k ih => intro i τ; rw [itF_succ, ih]; exact mv2_w h10 h11 h12 h13 h14 a x
  have e2 : ∀ (k i : Nat) (τ : Sg), (itF (mv1 A m p b) k i τ).1 c a x = τ.1 c a x := by
    intro k; induction k with
    | zero => intro i τ; rfl
    | succ k ih => intro i τ; rw [itF_succ, ih]; exact mv1_w h10 a x
  rw [e1, e2]
  unfold mvA
  rw [rII h9, rII h8, rII h7, rII h6, rII h5, rII h4, rII h3, rII h2, rII h1]
theorem mv2_O {A : Nat → Nat} {p q b k : Nat} {τ : Sg} : (mv2 A p q b k τ).2 = τ.2 := by
  unfold mv2
  split
  · rfl
  · split
    · show (mvN _ _ _ _).2 = _
      unfold mvN
      split <;> rfl
    · rfl
theorem mvS_O {σ : Sg} {m : Nat} {A : Nat → Nat} {p q b n z : Nat} {w v t : Int32} : (mvS σ m A p q b n z w v t).2 = σ.2 := by
  have e1 : ∀ (k i : Nat) (τ : Sg), (itF (mv2 A p q b) k i τ).2 = τ.2 := by
    intro k; induction k with
    | zero => intro i τ; rfl
    | succ k ih => intro i τ; rw [itF_succ, ih]; exact mv2_O
  have e2 : ∀ (k i : Nat) (τ : Sg), (itF (mv1 A m p b) k i τ).2 = τ.2 := by
    intro k; induction k with
    | zero => intro i τ; rfl
    | succ k ih => intro i τ; rw [itF_succ, ih]; rfl
  show (itF (mv2 A p q b) n 0 (itF (mv1 A m p b) n 0 (mvA σ m A p b n z w v t))).2 = _
  rw [e1, e2]; rfl
theorem cg2 {α β γ : Type} (f : α → β → γ) {a a' : α} {b b' : β} (h : a = a') (h2 : b = b') : f a b = f a' b' := by rw [h, h2]
theorem MO.of2 {σ τ : Sg} {m : Nat} {A : Nat → Nat} (h : MO σ m A) (e : τ.2 = σ.2) : MO τ m A := by
  unfold MO; rw [e]; exact h
set_option maxRecDepth 20000 in
set_option maxHeartbeats 4000000 in
theorem c_mo_send1 (l : Launch) (E : FE) (d : Nat) (σ : Sg) (m : Nat) (A : Nat → Nat) (p : Nat) (x w : Int32) (q b n z W : Nat) (t : Int32) (IV : Nat → Sg → Prop) (hd : 3 ≤ d) (hM : MO σ m A) (hp : p < 4) (hal : ¬ σ.1 510000 (A 0) p = 0) (hd5 : 5 ≤ d) (hq : q < 4) (hqe : pOf (tgtF σ m A p x) = q) (hn : n ≤ 4) (hit : σ.1 570000 (A 6) p = nI n) (hz : z ≤ 20) (hsz : σ.1 580000 (A 7) p = nI z) (hw1 : w = 0 ∨ w = 1) (hg : ¬ tgtF σ m A p x < 0 → dedI (σ.1 510000 (A 0)) (σ.1 520000 (A 1)) (tgtF σ m A p x) = 0 → gapF (nxS σ A q) (bhS σ A q) (nI (max 1 (n + z))) 66 0 (-1) 65 = some t) (hW : σ.1 720000 (A 21) q = nI W) (hr : ¬ tgtF σ m A p x < 0 → dedI (σ.1 510000 (A 0)) (σ.1 520000 (A 1)) (tgtF σ m A p x) = 0 → flF σ m A p q n z w (msnM σ m A p q x w) t = 0 → (64 * q ≤ b ∧ b < 64 * q + 64 ∧ σ.1 610000 (A 10) b ≤ 0 ∧ (∀ i, 64 * q ≤ i → i < b → ¬ σ.1 610000 (A 10) i ≤ 0) ∧ W < 64) ∧ (∀ i τ, i < n → IV i τ → IV (i + 1) (mv2 A p q b i τ) ∧ (¬ τ.1 710000 (A 20) (4 * b + i) < 0 → hmO τ A q (τ.1 710000 (A 20) (4 * b + i)) = 0 → hmK τ A q (τ.1 710000 (A 20) (4 * b + i)) ≤ 0 → ∃ j, 1 ≤ j ∧ j < 16 ∧ hhF (τ.1 550000 (A 4)) (τ.1 560000 (A 5)) q (nI j) = 0)) ∧ IV 0 (itF (mv1 A m p b) n 0 (mvA (sI σ 500000 m 0 0) m A p b n z w (tgtF σ m A p x) t))) : CT l E d 103 [vR (some m), vI (nI p), vI x, vI w] σ 0 0 (fun r σ' => r = some (vI (msnF σ m A p x w q b n z W t).1) ∧ σ' = (msnF σ m A p x w q b n z W t).2) (fun _ _ => False) := by
  refine CTo ok_mo_send (by decide +kernel) rfl rfl rfl ?_
  refine w_run 2 (S' := (2, [(0, vR (some m)), (1, vI (nI p)), (2, vI x), (3, vI w)], [vI (nI p), vR (some m)], σ, 0, 0)) rfl ?_
  refine w_callV (st := []) [vI (nI p)] rfl ml_10_123 rfl rfl hM.1 rfl rfl rfl (by simp only [RM]; omega) (by simp only [RM]; show 8 + (2 + 11) + _ ≤ _; omega) rfl (by simp only [RM]; omega) (by simp only [RM]; omega) (c_mo_absent0 l E (d - 1) σ m A p hM hp hal) (fun _ _ h => h.elim) ?_
  intro r9 s9 q9
  rw [q9.1, q9.2]
  clear q9 r9 s9
  show WG _ _ _ _ _ _ _ (5, [(0, vR (some m)), (1, vI (nI p)), (2, vI x), (3, vI w)], [vI 0], sI σ 500000 m 0 0, 0, 0)
  refine w_if_eq rfl (fun c1 => ?_) (fun c1 => (absurd ((nI_eq (a := 0) (b := 0) (by omega) (by omega)).mpr (by omega)) c1))
  have nc1 := (nI_eq (a := 0) (b := 0) (by omega) (by omega)).mp c1
  refine w_run 3 (S' := (13, [(0, vR (some m)), (1, vI (nI p)), (2, vI x), (3, vI w)], [vI x, vI (nI p), vR (some m)], sI σ 500000 m 0 0, 0, 0)) rfl ?_
  refine w_callV (st := []) [vI (nI p), vI x] rfl ml_10_181 rfl rfl hM.1 rfl rfl rfl (by simp only [RM]; omega) (by simp only [RM]; show 8 + (3 + 11) + _ ≤ _; omega) rfl (by simp only [RM]; omega) (by simp only [RM]; omega) (c_mo_target l E (d - 1) (sI σ 500000 m 0 0) m A p 0 x hM (by omega) hp) (fun _ _ h => h.elim) ?_
  intro r9 s9 q9
  rw [q9.1, q9.2]
  clear q9 r9 s9
  show WG _ _ _ _ _ _ _ (16, [(0, vR (some m)), (1, vI (nI p)), (2, vI x), (3, vI w)], [vI (tgtF σ m A p x)], sI σ 500000 m 0 0, 0, 0)
  refine w_run 2 (S' := (20, [(4, vI (tgtF σ m A p x)), (0, vR (some m)), (1, vI (nI p)), (2, vI x), (3, vI w)], [vI (tgtF σ m A p x)], sI σ 500000 m 0 0, 0, 0)) rfl ?_
  refine w_if_ge rfl (fun c2 => ?_) (fun c2 => ?_)
  · refine w_run 2 (S' := (28, [(4, vI (tgtF σ m A p x)), (0, vR (some m)), (1, vI (nI p)), (2, vI x), (3, vI w)], [vI (tgtF σ m A p x), vR (some m)], sI σ 500000 m 0 0, 0, 0)) rfl ?_
    refine w_callV (st := []) [vI (tgtF σ m A p x)] rfl ml_10_153 rfl rfl hM.1 rfl rfl rfl (by simp only [RM]; omega) (by simp only [RM]; show 8 + (3 + 11) + _ ≤ _; omega) rfl (by simp only [RM]; omega) (by simp only [RM]; omega) (c_mo_isDeadI l E (d - 1) (sI σ 500000 m 0 0) m A (tgtF σ m A p x) 0 hM (by omega) (Int32.not_lt.mpr c2)) (fun _ _ h => h.elim) ?_
    intro r9 s9 q9
    rw [q9.1, q9.2]
    clear q9 r9 s9
    show WG _ _ _ _ _ _ _ (31, [(4, vI (tgtF σ m A p x)), (0, vR (some m)), (1, vI (nI p)), (2, vI x), (3, vI w)], [vI (dedI (σ.1 510000 (A 0)) (σ.1 520000 (A 1)) (tgtF σ m A p x))], sI σ 500000 m 0 0, 0, 0)
    refine w_if_eq rfl (fun c3 => ?_) (fun c3 => ?_)
    · refine w_run 1 (S' := (38, [(4, vI (tgtF σ m A p x)), (0, vR (some m)), (1, vI (nI p)), (2, vI x), (3, vI w)], [vI w], sI σ 500000 m 0 0, 0, 0)) rfl ?_
      refine w_if_ne rfl (fun c4 => ?_) (fun c4 => ?_)
      · refine w_run 2 (S' := (55, [(4, vI (tgtF σ m A p x)), (0, vR (some m)), (1, vI (nI p)), (2, vI x), (3, vI w)], [vI (nI p), vR (some m)], sI σ 500000 m 0 0, 0, 0)) rfl ?_
        refine w_callV (st := []) [vI (nI p)] rfl ml_10_184 rfl rfl hM.1 rfl rfl rfl (by simp only [RM]; omega) (by simp only [RM]; show 8 + (4 + 11) + _ ≤ _; omega) rfl (by simp only [RM]; omega) (by simp only [RM]; omega) (c_mo_isBad l E (d - 1) (sI σ 500000 m 0 0) m A p n 0 hM (by omega) hp hn hit) (fun _ _ h => h.elim) ?_
        intro r9 s9 q9
        rw [q9.1, q9.2]
        clear q9 r9 s9
        show WG _ _ _ _ _ _ _ (58, [(4, vI (tgtF σ m A p x)), (0, vR (some m)), (1, vI (nI p)), (2, vI x), (3, vI w)], [vI (itF (badF σ m A p) n 0 0)], sI σ 500000 m 0 0, 0, 0)
        refine w_if_eq rfl (fun c5 => ?_) (fun c5 => ?_)
        · refine w_run 1 (S' := (66, [(4, vI (tgtF σ m A p x)), (0, vR (some m)), (1, vI (nI p)), (2, vI x), (3, vI w)], [vI (tgtF σ m A p x)], sI σ 500000 m 0 0, 0, 0)) rfl ?_
          refine w_callS (st := []) [vI (tgtF σ m A p x)] rfl ml_10_111 rfl (by simp only [RM]; omega) (by simp only [RM]; show 8 + (1 + 11) + _ ≤ _; omega) rfl (by simp only [RM]; omega) (by simp only [RM]; omega) ((hqe ▸ c_mo_processOfI l E (d - 1) (sI σ 500000 m 0 0) (tgtF σ m A p x) (Int32.not_lt.mpr c2) : CT l E (d - 1) 74 [vI (tgtF σ m A p x)] (sI σ 500000 m 0 0) 0 0 (fun r σ9 => r = some (vI (nI q)) ∧ σ9 = sI σ 500000 m 0 0) (fun _ _ => False))) (fun _ _ h => h.elim) ?_
          intro r9 s9 q9
          rw [q9.1, q9.2]
          clear q9 r9 s9
          show WG _ _ _ _ _ _ _ (69, [(4, vI (tgtF σ m A p x)), (0, vR (some m)), (1, vI (nI p)), (2, vI x), (3, vI w)], [vI (nI q)], sI σ 500000 m 0 0, 0, 0)
          refine w_run 2 (S' := (72, [(5, vI (nI q)), (4, vI (tgtF σ m A p x)), (0, vR (some m)), (1, vI (nI p)), (2, vI x), (3, vI w)], [vI w], sI σ 500000 m 0 0, 0, 0)) rfl ?_
          refine w_if_eq rfl (fun c6 => (absurd c6 c4)) (fun c6 => ?_)
          refine w_run 3 (S' := (80, [(5, vI (nI q)), (4, vI (tgtF σ m A p x)), (0, vR (some m)), (1, vI (nI p)), (2, vI x), (3, vI w)], [vI (tgtF σ m A p x), vI (nI q), vR (some m)], sI σ 500000 m 0 0, 0, 0)) rfl ?_
          refine w_callV (st := []) [vI (nI q), vI (tgtF σ m A p x)] rfl ml_10_187 rfl rfl hM.1 rfl rfl rfl (by simp only [RM]; omega) (by simp only [RM]; show 8 + (5 + 11) + _ ≤ _; omega) rfl (by simp only [RM]; omega) (by simp only [RM]; omega) (c_mo_isBusy l E (d - 1) (sI σ 500000 m 0 0) m A q (tgtF σ m A p x) hM hq) (fun _ _ h => h.elim) ?_
          intro r9 s9 q9
          rw [q9.1, q9.2]
          clear q9 r9 s9
          show WG _ _ _ _ _ _ _ (83, [(5, vI (nI q)), (4, vI (tgtF σ m A p x)), (0, vR (some m)), (1, vI (nI p)), (2, vI x), (3, vI w)], [vI (itF (bsyF (σ.1 610000 (A 10)) (σ.1 640000 (A 13)) (σ.1 650000 (A 14)) (tgtF σ m A p x)) 64 (64 * q) 0)], sI σ 500000 m 0 0, 0, 0)
          refine w_if_eq rfl (fun c7 => ?_) (fun c7 => ?_)
          · refine w_run 1 (S' := (91, [(5, vI (nI q)), (4, vI (tgtF σ m A p x)), (0, vR (some m)), (1, vI (nI p)), (2, vI x), (3, vI w)], [vI 0], sI σ 500000 m 0 0, 0, 0)) rfl ?_
            have hmw : msnM σ m A p q x w = 0 := (if_neg c6).trans (if_pos c7)
            refine Eq.mp (congrArg (fun x9 => WG _ _ _ _ _ _ _ (91, [(5, vI (nI q)), (4, vI (tgtF σ m A p x)), (0, vR (some m)), (1, vI (nI p)), (2, vI x), (3, vI w)], [vI x9], sI σ 500000 m 0 0, 0, 0)) hmw) ?_
            show WG _ _ _ _ _ _ _ (91, [(5, vI (nI q)), (4, vI (tgtF σ m A p x)), (0, vR (some m)), (1, vI (nI p)), (2, vI x), (3, vI w)], [vI (msnM σ m A p q x w)], sI σ 500000 m 0 0, 0, 0)
            refine w_run 6 (S' := (100, [(6, vI (msnM σ m A p q x w)), (5, vI (nI q)), (4, vI (tgtF σ m A p x)), (0, vR (some m)), (1, vI (nI p)), (2, vI x), (3, vI w)], [vI (msnM σ m A p q x w), vI w, vI (nI q), vI (nI p), vR (some m)], sI σ 500000 m 0 0, 0, 0)) rfl ?_
            refine w_callV (st := []) [vI (nI p), vI (nI q), vI w, vI (msnM σ m A p q x w)] rfl ml_10_190 rfl rfl hM.1 rfl rfl rfl (by simp only [RM]; omega) (by simp only [RM]; show 8 + (6 + 11) + _ ≤ _; omega) rfl (by simp only [RM]; omega) (by simp only [RM]; omega) (c_mo_isFull l E (d - 1) (sI σ 500000 m 0 0) m A p q n z w (msnM σ m A p q x w) t (by omega) hM hp hq hn hit hz hsz (hg (Int32.not_lt.mpr c2) c3)) (fun _ _ h => h.elim) ?_
            intro r9 s9 q9
            rw [q9.1, q9.2]
            clear q9 r9 s9
            show WG _ _ _ _ _ _ _ (103, [(6, vI (msnM σ m A p q x w)), (5, vI (nI q)), (4, vI (tgtF σ m A p x)), (0, vR (some m)), (1, vI (nI p)), (2, vI x), (3, vI w)], [vI (flF σ m A p q n z w (msnM σ m A p q x w) t)], sI σ 500000 m 0 0, 0, 0)
            refine w_if_eq rfl (fun c8 => ?_) (fun c8 => ?_)
            · obtain ⟨⟨hb1, hb2, hb0, hb3, hW6⟩, hIV, hI0⟩ := hr (Int32.not_lt.mpr c2) c3 c8
              have hM1 : MO (mvS (sI σ 500000 m 0 0) m A p q b n z w (tgtF σ m A p x) t) m A := MO.of2 hM mvS_O
              refine w_run 5 (S' := (116, [(6, vI (msnM σ m A p q x w)), (5, vI (nI q)), (4, vI (tgtF σ m A p x)), (0, vR (some m)), (1, vI (nI p)), (2, vI x), (3, vI w)], [vI (tgtF σ m A p x), vI w, vI (nI q), vI (nI p), vR (some m)], sI σ 500000 m 0 0, 0, 0)) rfl ?_
              refine w_callV (st := []) [vI (nI p), vI (nI q), vI w, vI (tgtF σ m A p x)] rfl ml_10_194 rfl rfl hM.1 rfl rfl rfl (by simp only [RM]; omega) (by simp only [RM]; show 8 + (11 + 11) + _ ≤ _; omega) rfl (by simp only [RM]; omega) (by simp only [RM]; omega) (c_mo_moves l E (d - 1) (sI σ 500000 m 0 0) m A p q b n z w (tgtF σ m A p x) t IV (by omega) hM hp hq hn hit hz hsz hw1 (hg (Int32.not_lt.mpr c2) c3) hb1 hb2 hb0 hb3 hIV hI0) (fun _ _ h => h.elim) ?_
              intro r9 s9 q9
              rw [q9.1, q9.2]
              clear q9 r9 s9
              show WG _ _ _ _ _ _ _ (119, [(6, vI (msnM σ m A p q x w)), (5, vI (nI q)), (4, vI (tgtF σ m A p x)), (0, vR (some m)), (1, vI (nI p)), (2, vI x), (3, vI w)], [vI (nI b)], mvS (sI σ 500000 m 0 0) m A p q b n z w (tgtF σ m A p x) t, 0, 0)
              refine w_run 2 (S' := (123, [(7, vI (nI b)), (6, vI (msnM σ m A p q x w)), (5, vI (nI q)), (4, vI (tgtF σ m A p x)), (0, vR (some m)), (1, vI (nI p)), (2, vI x), (3, vI w)], [vI (msnM σ m A p q x w)], mvS (sI σ 500000 m 0 0) m A p q b n z w (tgtF σ m A p x) t, 0, 0)) rfl ?_
              refine w_if_eq rfl (fun c9 => ?_) (fun c9 => (absurd hmw c9))
              refine w_run 3 (S' := (141, [(7, vI (nI b)), (6, vI (msnM σ m A p q x w)), (5, vI (nI q)), (4, vI (tgtF σ m A p x)), (0, vR (some m)), (1, vI (nI p)), (2, vI x), (3, vI w)], [vI w, vI (nI q), vR (some m)], mvS (sI σ 500000 m 0 0) m A p q b n z w (tgtF σ m A p x) t, 0, 0)) rfl ?_
              refine w_if_eq rfl (fun c10 => (absurd c10 c6)) (fun c10 => ?_)
              refine w_run 5 (S' := (155, [(7, vI (nI b)), (6, vI (msnM σ m A p q x w)), (5, vI (nI q)), (4, vI (tgtF σ m A p x)), (0, vR (some m)), (1, vI (nI p)), (2, vI x), (3, vI w)], [vI 10, vI (tgtF σ m A p x), vI (nI b), vI 2, vI (nI q), vR (some m)], mvS (sI σ 500000 m 0 0) m A p q b n z w (tgtF σ m A p x) t, 0, 0)) rfl ?_
              refine w_irem rfl (by decide) ?_
              refine w_run 2 (S' := (158, [(7, vI (nI b)), (6, vI (msnM σ m A p q x w)), (5, vI (nI q)), (4, vI (tgtF σ m A p x)), (0, vR (some m)), (1, vI (nI p)), (2, vI x), (3, vI w)], [vI 0, vI (nI p), vI ((tgtF σ m A p x) - (tgtF σ m A p x) / 10 * 10), vI (nI b), vI 2, vI (nI q), vR (some m)], mvS (sI σ 500000 m 0 0) m A p q b n z w (tgtF σ m A p x) t, 0, 0)) rfl ?_
              refine w_callV (st := []) [vI (nI q), vI 2, vI (nI b), vI ((tgtF σ m A p x) - (tgtF σ m A p x) / 10 * 10), vI (nI p), vI 0] rfl ml_10_119 rfl rfl hM1.1 rfl rfl rfl (by simp only [RM]; omega) (by simp only [RM]; show 8 + (8 + 11) + _ ≤ _; omega) rfl (by simp only [RM]; omega) (by simp only [RM]; omega) (c_mo_comes l E (d - 1) (mvS (sI σ 500000 m 0 0) m A p q b n z w (tgtF σ m A p x) t) m A q W 2 (nI b) (tgtF σ m A p x - tgtF σ m A p x / 10 * 10) (nI p) 0 hM1 hq ((mvS_w (by decide) _ _).trans hW) hW6 (fun _ => by rw [nI_clamp (by omega)]; exact hp)) (fun _ _ h => h.elim) ?_
              intro r9 s9 q9
              rw [q9.1, q9.2]
              clear q9 r9 s9
              show WG _ _ _ _ _ _ _ (161, [(7, vI (nI b)), (6, vI (msnM σ m A p q x w)), (5, vI (nI q)), (4, vI (tgtF σ m A p x)), (0, vR (some m)), (1, vI (nI p)), (2, vI x), (3, vI w)], [], cmS (mvS (sI σ 500000 m 0 0) m A p q b n z w (tgtF σ m A p x) t) A q W 2 (nI b) (tgtF σ m A p x - tgtF σ m A p x / 10 * 10) (nI p) 0, 0, 0)
              refine w_run 1 (S' := (162, [(7, vI (nI b)), (6, vI (msnM σ m A p q x w)), (5, vI (nI q)), (4, vI (tgtF σ m A p x)), (0, vR (some m)), (1, vI (nI p)), (2, vI x), (3, vI w)], [vR (some m)], cmS (mvS (sI σ 500000 m 0 0) m A p q b n z w (tgtF σ m A p x) t) A q W 2 (nI b) (tgtF σ m A p x - tgtF σ m A p x / 10 * 10) (nI p) 0, 0, 0)) rfl ?_
              refine w_get (k := 50) (vR ((cmS (mvS (sI σ 500000 m 0 0) m A p q b n z w (tgtF σ m A p x) t) A q W 2 (nI b) (tgtF σ m A p x - tgtF σ m A p x / 10 * 10) (nI p) 0).2.1 502977 m 0)) rfl rfl rfl hM1.1 rfl rfl ?_
              refine w_run 2 (S' := (167, [(7, vI (nI b)), (6, vI (msnM σ m A p q x w)), (5, vI (nI q)), (4, vI (tgtF σ m A p x)), (0, vR (some m)), (1, vI (nI p)), (2, vI x), (3, vI w)], [vR (some m), vI (nI p), vR ((cmS (mvS (sI σ 500000 m 0 0) m A p q b n z w (tgtF σ m A p x) t) A q W 2 (nI b) (tgtF σ m A p x - tgtF σ m A p x / 10 * 10) (nI p) 0).2.1 502977 m 0)], cmS (mvS (sI σ 500000 m 0 0) m A p q b n z w (tgtF σ m A p x) t) A q W 2 (nI b) (tgtF σ m A p x - tgtF σ m A p x / 10 * 10) (nI p) 0, 0, 0)) rfl ?_
              refine w_get (k := 50) (vR ((cmS (mvS (sI σ 500000 m 0 0) m A p q b n z w (tgtF σ m A p x) t) A q W 2 (nI b) (tgtF σ m A p x - tgtF σ m A p x / 10 * 10) (nI p) 0).2.1 502977 m 0)) rfl rfl rfl hM1.1 rfl rfl ?_
              refine w_run 1 (S' := (171, [(7, vI (nI b)), (6, vI (msnM σ m A p q x w)), (5, vI (nI q)), (4, vI (tgtF σ m A p x)), (0, vR (some m)), (1, vI (nI p)), (2, vI x), (3, vI w)], [vI (nI p), vR ((cmS (mvS (sI σ 500000 m 0 0) m A p q b n z w (tgtF σ m A p x) t) A q W 2 (nI b) (tgtF σ m A p x - tgtF σ m A p x / 10 * 10) (nI p) 0).2.1 502977 m 0), vI (nI p), vR ((cmS (mvS (sI σ 500000 m 0 0) m A p q b n z w (tgtF σ m A p x) t) A q W 2 (nI b) (tgtF σ m A p x - tgtF σ m A p x / 10 * 10) (nI p) 0).2.1 502977 m 0)], cmS (mvS (sI σ 500000 m 0 0) m A p q b n z w (tgtF σ m A p x) t) A q W 2 (nI b) (tgtF σ m A p x - tgtF σ m A p x / 10 * 10) (nI p) 0, 0, 0)) rfl ?_
              refine w_zald (k := 77) rfl ((hM1.2 26 (by decide)).1) ((hM1.2 26 (by decide)).2) rfl (show vp_in (nI p) 4 from vp_in_nI (n := p) (by omega) (by decide)) ?_
              show WG _ _ _ _ _ _ _ (172, [(7, vI (nI b)), (6, vI (msnM σ m A p q x w)), (5, vI (nI q)), (4, vI (tgtF σ m A p x)), (0, vR (some m)), (1, vI (nI p)), (2, vI x), (3, vI w)], [vI ((cmS (mvS (sI σ 500000 m 0 0) m A p q b n z w (tgtF σ m A p x) t) A q W 2 (nI b) (tgtF σ m A p x - tgtF σ m A p x / 10 * 10) (nI p) 0).1 770000 (A 26) (nI p).toNatClampNeg), vI (nI p), vR ((cmS (mvS (sI σ 500000 m 0 0) m A p q b n z w (tgtF σ m A p x) t) A q W 2 (nI b) (tgtF σ m A p x - tgtF σ m A p x / 10 * 10) (nI p) 0).2.1 502977 m 0)], cmS (mvS (sI σ 500000 m 0 0) m A p q b n z w (tgtF σ m A p x) t) A q W 2 (nI b) (tgtF σ m A p x - tgtF σ m A p x / 10 * 10) (nI p) 0, 0, 0)
              rw [show (nI p : Int32).toNatClampNeg = p from nI_clamp (n := p) (by omega)]
              show WG _ _ _ _ _ _ _ (172, [(7, vI (nI b)), (6, vI (msnM σ m A p q x w)), (5, vI (nI q)), (4, vI (tgtF σ m A p x)), (0, vR (some m)), (1, vI (nI p)), (2, vI x), (3, vI w)], [vI ((cmS (mvS (sI σ 500000 m 0 0) m A p q b n z w (tgtF σ m A p x) t) A q W 2 (nI b) (tgtF σ m A p x - tgtF σ m A p x / 10 * 10) (nI p) 0).1 770000 (A 26) p), vI (nI p), vR ((cmS (mvS (sI σ 500000 m 0 0) m A p q b n z w (tgtF σ m A p x) t) A q W 2 (nI b) (tgtF σ m A p x - tgtF σ m A p x / 10 * 10) (nI p) 0).2.1 502977 m 0)], cmS (mvS (sI σ 500000 m 0 0) m A p q b n z w (tgtF σ m A p x) t) A q W 2 (nI b) (tgtF σ m A p x - tgtF σ m A p x / 10 * 10) (nI p) 0, 0, 0)
              refine w_if_ne rfl (fun c11 => ?_) (fun c11 => ?_)
              · have hwt : ¬ σ.1 770000 (A 26) p = 0 := ((cm_w (by decide) (by decide)).trans ((mvS_w (by decide) _ _).trans (rII (by decide))) : (cmS (mvS (sI σ 500000 m 0 0) m A p q b n z w (tgtF σ m A p x) t) A q W 2 (nI b) (tgtF σ m A p x - tgtF σ m A p x / 10 * 10) (nI p) 0).1 770000 (A 26) p = σ.1 770000 (A 26) p) ▸ c11
                refine w_run 2 (S' := (184, [(7, vI (nI b)), (6, vI (msnM σ m A p q x w)), (5, vI (nI q)), (4, vI (tgtF σ m A p x)), (0, vR (some m)), (1, vI (nI p)), (2, vI x), (3, vI w)], [vI 1, vI (nI p), vR ((cmS (mvS (sI σ 500000 m 0 0) m A p q b n z w (tgtF σ m A p x) t) A q W 2 (nI b) (tgtF σ m A p x - tgtF σ m A p x / 10 * 10) (nI p) 0).2.1 502977 m 0)], cmS (mvS (sI σ 500000 m 0 0) m A p q b n z w (tgtF σ m A p x) t) A q W 2 (nI b) (tgtF σ m A p x - tgtF σ m A p x / 10 * 10) (nI p) 0, 0, 0)) rfl ?_
                refine w_zast (k := 77) rfl ((hM1.2 26 (by decide)).1) ((hM1.2 26 (by decide)).2) rfl (show vp_in (nI p) 4 from vp_in_nI (n := p) (by omega) (by decide)) (Or.inr rfl) ?_
                show WG _ _ _ _ _ _ _ (185, [(7, vI (nI b)), (6, vI (msnM σ m A p q x w)), (5, vI (nI q)), (4, vI (tgtF σ m A p x)), (0, vR (some m)), (1, vI (nI p)), (2, vI x), (3, vI w)], [], sI (cmS (mvS (sI σ 500000 m 0 0) m A p q b n z w (tgtF σ m A p x) t) A q W 2 (nI b) (tgtF σ m A p x - tgtF σ m A p x / 10 * 10) (nI p) 0) 770000 (A 26) ((nI p).toNatClampNeg) 1, 0, 0)
                rw [show (nI p : Int32).toNatClampNeg = p from nI_clamp (n := p) (by omega)]
                refine w_run 1 (S' := (186, [(7, vI (nI b)), (6, vI (msnM σ m A p q x w)), (5, vI (nI q)), (4, vI (tgtF σ m A p x)), (0, vR (some m)), (1, vI (nI p)), (2, vI x), (3, vI w)], [vI 0], sI (cmS (mvS (sI σ 500000 m 0 0) m A p q b n z w (tgtF σ m A p x) t) A q W 2 (nI b) (tgtF σ m A p x - tgtF σ m A p x / 10 * 10) (nI p) 0) 770000 (A 26) p 1, 0, 0)) rfl ?_
                exact w_iret rfl (Or.inl rfl) (by omega) (by omega) (⟨by rw [msnF, if_neg (Int32.not_lt.mpr c2), if_neg (not_not_intro c3), if_neg (fun h9 => c4 h9.1), if_neg (not_not_intro c5), if_neg (not_not_intro c8)], by rw [msnF, if_neg (Int32.not_lt.mpr c2), if_neg (not_not_intro c3), if_neg (fun h9 => c4 h9.1), if_neg (not_not_intro c5), if_neg (not_not_intro c8)]; exact cg2 (fun a9 b9 => sI a9 770000 (A 26) p b9) (by rw [msnS, hmw, if_pos (rfl : (0 : Int32) = 0), if_neg c6]) (by rw [if_pos hwt])⟩)
              · have hwt : σ.1 770000 (A 26) p = 0 := ((cm_w (by decide) (by decide)).trans ((mvS_w (by decide) _ _).trans (rII (by decide))) : (cmS (mvS (sI σ 500000 m 0 0) m A p q b n z w (tgtF σ m A p x) t) A q W 2 (nI b) (tgtF σ m A p x - tgtF σ m A p x / 10 * 10) (nI p) 0).1 770000 (A 26) p = σ.1 770000 (A 26) p) ▸ c11
                refine w_run 1 (S' := (176, [(7, vI (nI b)), (6, vI (msnM σ m A p q x w)), (5, vI (nI q)), (4, vI (tgtF σ m A p x)), (0, vR (some m)), (1, vI (nI p)), (2, vI x), (3, vI w)], [vI w, vI (nI p), vR ((cmS (mvS (sI σ 500000 m 0 0) m A p q b n z w (tgtF σ m A p x) t) A q W 2 (nI b) (tgtF σ m A p x - tgtF σ m A p x / 10 * 10) (nI p) 0).2.1 502977 m 0)], cmS (mvS (sI σ 500000 m 0 0) m A p q b n z w (tgtF σ m A p x) t) A q W 2 (nI b) (tgtF σ m A p x - tgtF σ m A p x / 10 * 10) (nI p) 0, 0, 0)) rfl ?_
                refine w_if_ne rfl (fun c12 => ?_) (fun c12 => (absurd c12 c10))
                refine w_run 1 (S' := (184, [(7, vI (nI b)), (6, vI (msnM σ m A p q x w)), (5, vI (nI q)), (4, vI (tgtF σ m A p x)), (0, vR (some m)), (1, vI (nI p)), (2, vI x), (3, vI w)], [vI 0, vI (nI p), vR ((cmS (mvS (sI σ 500000 m 0 0) m A p q b n z w (tgtF σ m A p x) t) A q W 2 (nI b) (tgtF σ m A p x - tgtF σ m A p x / 10 * 10) (nI p) 0).2.1 502977 m 0)], cmS (mvS (sI σ 500000 m 0 0) m A p q b n z w (tgtF σ m A p x) t) A q W 2 (nI b) (tgtF σ m A p x - tgtF σ m A p x / 10 * 10) (nI p) 0, 0, 0)) rfl ?_
                refine w_zast (k := 77) rfl ((hM1.2 26 (by decide)).1) ((hM1.2 26 (by decide)).2) rfl (show vp_in (nI p) 4 from vp_in_nI (n := p) (by omega) (by decide)) (Or.inl rfl) ?_
                show WG _ _ _ _ _ _ _ (185, [(7, vI (nI b)), (6, vI (msnM σ m A p q x w)), (5, vI (nI q)), (4, vI (tgtF σ m A p x)), (0, vR (some m)), (1, vI (nI p)), (2, vI x), (3, vI w)], [], sI (cmS (mvS (sI σ 500000 m 0 0) m A p q b n z w (tgtF σ m A p x) t) A q W 2 (nI b) (tgtF σ m A p x - tgtF σ m A p x / 10 * 10) (nI p) 0) 770000 (A 26) ((nI p).toNatClampNeg) 0, 0, 0)
                rw [show (nI p : Int32).toNatClampNeg = p from nI_clamp (n := p) (by omega)]
                refine w_run 1 (S' := (186, [(7, vI (nI b)), (6, vI (msnM σ m A p q x w)), (5, vI (nI q)), (4, vI (tgtF σ m A p x)), (0, vR (some m)), (1, vI (nI p)), (2, vI x), (3, vI w)], [vI 0], sI (cmS (mvS (sI σ 500000 m 0 0) m A p q b n z w (tgtF σ m A p x) t) A q W 2 (nI b) (tgtF σ m A p x - tgtF σ m A p x / 10 * 10) (nI p) 0) 770000 (A 26) p 0, 0, 0)) rfl ?_
                exact w_iret rfl (Or.inl rfl) (by omega) (by omega) (⟨by rw [msnF, if_neg (Int32.not_lt.mpr c2), if_neg (not_not_intro c3), if_neg (fun h9 => c4 h9.1), if_neg (not_not_intro c5), if_neg (not_not_intro c8)], by rw [msnF, if_neg (Int32.not_lt.mpr c2), if_neg (not_not_intro c3), if_neg (fun h9 => c4 h9.1), if_neg (not_not_intro c5), if_neg (not_not_intro c8)]; exact cg2 (fun a9 b9 => sI a9 770000 (A 26) p b9) (by rw [msnS, hmw, if_pos (rfl : (0 : Int32) = 0), if_neg c6]) (by rw [if_neg (not_not_intro hwt), if_neg c12])⟩)
            · refine w_run 1 (S' := (108, [(6, vI (msnM σ m A p q x w)), (5, vI (nI q)), (4, vI (tgtF σ m A p x)), (0, vR (some m)), (1, vI (nI p)), (2, vI x), (3, vI w)], [vI (-4)], sI σ 500000 m 0 0, 0, 0)) rfl ?_
              exact w_iret rfl (Or.inl rfl) (by omega) (by omega) (⟨by rw [msnF, if_neg (Int32.not_lt.mpr c2), if_neg (not_not_intro c3), if_neg (fun h9 => c4 h9.1), if_neg (not_not_intro c5), if_pos c8], by rw [msnF, if_neg (Int32.not_lt.mpr c2), if_neg (not_not_intro c3), if_neg (fun h9 => c4 h9.1), if_neg (not_not_intro c5), if_pos c8]⟩)
          · refine w_run 2 (S' := (91, [(5, vI (nI q)), (4, vI (tgtF σ m A p x)), (0, vR (some m)), (1, vI (nI p)), (2, vI x), (3, vI w)], [vI 1], sI σ 500000 m 0 0, 0, 0)) rfl ?_
            have hmw : msnM σ m A p q x w = 1 := (if_neg c6).trans (if_neg c7)
            refine Eq.mp (congrArg (fun x9 => WG _ _ _ _ _ _ _ (91, [(5, vI (nI q)), (4, vI (tgtF σ m A p x)), (0, vR (some m)), (1, vI (nI p)), (2, vI x), (3, vI w)], [vI x9], sI σ 500000 m 0 0, 0, 0)) hmw) ?_
            show WG _ _ _ _ _ _ _ (91, [(5, vI (nI q)), (4, vI (tgtF σ m A p x)), (0, vR (some m)), (1, vI (nI p)), (2, vI x), (3, vI w)], [vI (msnM σ m A p q x w)], sI σ 500000 m 0 0, 0, 0)
            refine w_run 6 (S' := (100, [(6, vI (msnM σ m A p q x w)), (5, vI (nI q)), (4, vI (tgtF σ m A p x)), (0, vR (some m)), (1, vI (nI p)), (2, vI x), (3, vI w)], [vI (msnM σ m A p q x w), vI w, vI (nI q), vI (nI p), vR (some m)], sI σ 500000 m 0 0, 0, 0)) rfl ?_
            refine w_callV (st := []) [vI (nI p), vI (nI q), vI w, vI (msnM σ m A p q x w)] rfl ml_10_190 rfl rfl hM.1 rfl rfl rfl (by simp only [RM]; omega) (by simp only [RM]; show 8 + (6 + 11) + _ ≤ _; omega) rfl (by simp only [RM]; omega) (by simp only [RM]; omega) (c_mo_isFull l E (d - 1) (sI σ 500000 m 0 0) m A p q n z w (msnM σ m A p q x w) t (by omega) hM hp hq hn hit hz hsz (hg (Int32.not_lt.mpr c2) c3)) (fun _ _ h => h.elim) ?_
            intro r9 s9 q9
            rw [q9.1, q9.2]
            clear q9 r9 s9
            show WG _ _ _ _ _ _ _ (103, [(6, vI (msnM σ m A p q x w)), (5, vI (nI q)), (4, vI (tgtF σ m A p x)), (0, vR (some m)), (1, vI (nI p)), (2, vI x), (3, vI w)], [vI (flF σ m A p q n z w (msnM σ m A p q x w) t)], sI σ 500000 m 0 0, 0, 0)
            refine w_if_eq rfl (fun c13 => ?_) (fun c13 => ?_)
            · obtain ⟨⟨hb1, hb2, hb0, hb3, hW6⟩, hIV, hI0⟩ := hr (Int32.not_lt.mpr c2) c3 c13
              have hM1 : MO (mvS (sI σ 500000 m 0 0) m A p q b n z w (tgtF σ m A p x) t) m A := MO.of2 hM mvS_O
              refine w_run 5 (S' := (116, [(6, vI (msnM σ m A p q x w)), (5, vI (nI q)), (4, vI (tgtF σ m A p x)), (0, vR (some m)), (1, vI (nI p)), (2, vI x), (3, vI w)], [vI (tgtF σ m A p x), vI w, vI (nI q), vI (nI p), vR (some m)], sI σ 500000 m 0 0, 0, 0)) rfl ?_
              refine w_callV (st := []) [vI (nI p), vI (nI q), vI w, vI (tgtF σ m A p x)] rfl ml_10_194 rfl rfl hM.1 rfl rfl rfl (by simp only [RM]; omega) (by simp only [RM]; show 8 + (11 + 11) + _ ≤ _; omega) rfl (by simp only [RM]; omega) (by simp only [RM]; omega) (c_mo_moves l E (d - 1) (sI σ 500000 m 0 0) m A p q b n z w (tgtF σ m A p x) t IV (by omega) hM hp hq hn hit hz hsz hw1 (hg (Int32.not_lt.mpr c2) c3) hb1 hb2 hb0 hb3 hIV hI0) (fun _ _ h => h.elim) ?_
              intro r9 s9 q9
              rw [q9.1, q9.2]
              clear q9 r9 s9
              show WG _ _ _ _ _ _ _ (119, [(6, vI (msnM σ m A p q x w)), (5, vI (nI q)), (4, vI (tgtF σ m A p x)), (0, vR (some m)), (1, vI (nI p)), (2, vI x), (3, vI w)], [vI (nI b)], mvS (sI σ 500000 m 0 0) m A p q b n z w (tgtF σ m A p x) t, 0, 0)
              refine w_run 2 (S' := (123, [(7, vI (nI b)), (6, vI (msnM σ m A p q x w)), (5, vI (nI q)), (4, vI (tgtF σ m A p x)), (0, vR (some m)), (1, vI (nI p)), (2, vI x), (3, vI w)], [vI (msnM σ m A p q x w)], mvS (sI σ 500000 m 0 0) m A p q b n z w (tgtF σ m A p x) t, 0, 0)) rfl ?_
              refine w_if_eq rfl (fun c14 => (absurd (hmw.symm.trans c14) (by decide))) (fun c14 => ?_)
              refine w_run 1 (S' := (127, [(7, vI (nI b)), (6, vI (msnM σ m A p q x w)), (5, vI (nI q)), (4, vI (tgtF σ m A p x)), (0, vR (some m)), (1, vI (nI p)), (2, vI x), (3, vI w)], [vR (some m)], mvS (sI σ 500000 m 0 0) m A p q b n z w (tgtF σ m A p x) t, 0, 0)) rfl ?_
              refine w_get (k := 50) (vR ((mvS (sI σ 500000 m 0 0) m A p q b n z w (tgtF σ m A p x) t).2.1 501261 m 0)) rfl rfl rfl hM1.1 rfl rfl ?_
              refine w_run 2 (S' := (133, [(7, vI (nI b)), (6, vI (msnM σ m A p q x w)), (5, vI (nI q)), (4, vI (tgtF σ m A p x)), (0, vR (some m)), (1, vI (nI p)), (2, vI x), (3, vI w)], [vI 1, vI (nI b), vR ((mvS (sI σ 500000 m 0 0) m A p q b n z w (tgtF σ m A p x) t).2.1 501261 m 0)], mvS (sI σ 500000 m 0 0) m A p q b n z w (tgtF σ m A p x) t, 0, 0)) rfl ?_
              refine w_iast (k := 61) rfl ((hM1.2 10 (by decide)).1) ((hM1.2 10 (by decide)).2) rfl (show vp_in (nI b) 256 from vp_in_nI (n := b) (by omega) (by decide)) ?_
              show WG _ _ _ _ _ _ _ (134, [(7, vI (nI b)), (6, vI (msnM σ m A p q x w)), (5, vI (nI q)), (4, vI (tgtF σ m A p x)), (0, vR (some m)), (1, vI (nI p)), (2, vI x), (3, vI w)], [], sI (mvS (sI σ 500000 m 0 0) m A p q b n z w (tgtF σ m A p x) t) 610000 (A 10) ((nI b).toNatClampNeg) 1, 0, 0)
              rw [show (nI b : Int32).toNatClampNeg = b from nI_clamp (n := b) (by omega)]
              refine w_run 2 (S' := (162, [(7, vI (nI b)), (6, vI (msnM σ m A p q x w)), (5, vI (nI q)), (4, vI (tgtF σ m A p x)), (0, vR (some m)), (1, vI (nI p)), (2, vI x), (3, vI w)], [vR (some m)], sI (mvS (sI σ 500000 m 0 0) m A p q b n z w (tgtF σ m A p x) t) 610000 (A 10) b 1, 0, 0)) rfl ?_
              refine w_get (k := 50) (vR ((mvS (sI σ 500000 m 0 0) m A p q b n z w (tgtF σ m A p x) t).2.1 502977 m 0)) rfl rfl rfl hM1.1 rfl rfl ?_
              refine w_run 2 (S' := (167, [(7, vI (nI b)), (6, vI (msnM σ m A p q x w)), (5, vI (nI q)), (4, vI (tgtF σ m A p x)), (0, vR (some m)), (1, vI (nI p)), (2, vI x), (3, vI w)], [vR (some m), vI (nI p), vR ((mvS (sI σ 500000 m 0 0) m A p q b n z w (tgtF σ m A p x) t).2.1 502977 m 0)], sI (mvS (sI σ 500000 m 0 0) m A p q b n z w (tgtF σ m A p x) t) 610000 (A 10) b 1, 0, 0)) rfl ?_
              refine w_get (k := 50) (vR ((mvS (sI σ 500000 m 0 0) m A p q b n z w (tgtF σ m A p x) t).2.1 502977 m 0)) rfl rfl rfl hM1.1 rfl rfl ?_
              refine w_run 1 (S' := (171, [(7, vI (nI b)), (6, vI (msnM σ m A p q x w)), (5, vI (nI q)), (4, vI (tgtF σ m A p x)), (0, vR (some m)), (1, vI (nI p)), (2, vI x), (3, vI w)], [vI (nI p), vR ((mvS (sI σ 500000 m 0 0) m A p q b n z w (tgtF σ m A p x) t).2.1 502977 m 0), vI (nI p), vR ((mvS (sI σ 500000 m 0 0) m A p q b n z w (tgtF σ m A p x) t).2.1 502977 m 0)], sI (mvS (sI σ 500000 m 0 0) m A p q b n z w (tgtF σ m A p x) t) 610000 (A 10) b 1, 0, 0)) rfl ?_
              refine w_zald (k := 77) rfl ((hM1.2 26 (by decide)).1) ((hM1.2 26 (by decide)).2) rfl (show vp_in (nI p) 4 from vp_in_nI (n := p) (by omega) (by decide)) ?_
              show WG _ _ _ _ _ _ _ (172, [(7, vI (nI b)), (6, vI (msnM σ m A p q x w)), (5, vI (nI q)), (4, vI (tgtF σ m A p x)), (0, vR (some m)), (1, vI (nI p)), (2, vI x), (3, vI w)], [vI ((sI (mvS (sI σ 500000 m 0 0) m A p q b n z w (tgtF σ m A p x) t) 610000 (A 10) b 1).1 770000 (A 26) (nI p).toNatClampNeg), vI (nI p), vR ((mvS (sI σ 500000 m 0 0) m A p q b n z w (tgtF σ m A p x) t).2.1 502977 m 0)], sI (mvS (sI σ 500000 m 0 0) m A p q b n z w (tgtF σ m A p x) t) 610000 (A 10) b 1, 0, 0)
              rw [show (nI p : Int32).toNatClampNeg = p from nI_clamp (n := p) (by omega)]
              show WG _ _ _ _ _ _ _ (172, [(7, vI (nI b)), (6, vI (msnM σ m A p q x w)), (5, vI (nI q)), (4, vI (tgtF σ m A p x)), (0, vR (some m)), (1, vI (nI p)), (2, vI x), (3, vI w)], [vI ((mvS (sI σ 500000 m 0 0) m A p q b n z w (tgtF σ m A p x) t).1 770000 (A 26) p), vI (nI p), vR ((mvS (sI σ 500000 m 0 0) m A p q b n z w (tgtF σ m A p x) t).2.1 502977 m 0)], sI (mvS (sI σ 500000 m 0 0) m A p q b n z w (tgtF σ m A p x) t) 610000 (A 10) b 1, 0, 0)
              refine w_if_ne rfl (fun c15 => ?_) (fun c15 => ?_)
              · have hwt : ¬ σ.1 770000 (A 26) p = 0 := ((rII (by decide)).trans ((mvS_w (by decide) _ _).trans (rII (by decide))) : (sI (mvS (sI σ 500000 m 0 0) m A p q b n z w (tgtF σ m A p x) t) 610000 (A 10) b 1).1 770000 (A 26) p = σ.1 770000 (A 26) p) ▸ c15
                refine w_run 2 (S' := (184, [(7, vI (nI b)), (6, vI (msnM σ m A p q x w)), (5, vI (nI q)), (4, vI (tgtF σ m A p x)), (0, vR (some m)), (1, vI (nI p)), (2, vI x), (3, vI w)], [vI 1, vI (nI p), vR ((mvS (sI σ 500000 m 0 0) m A p q b n z w (tgtF σ m A p x) t).2.1 502977 m 0)], sI (mvS (sI σ 500000 m 0 0) m A p q b n z w (tgtF σ m A p x) t) 610000 (A 10) b 1, 0, 0)) rfl ?_
                refine w_zast (k := 77) rfl ((hM1.2 26 (by decide)).1) ((hM1.2 26 (by decide)).2) rfl (show vp_in (nI p) 4 from vp_in_nI (n := p) (by omega) (by decide)) (Or.inr rfl) ?_
                show WG _ _ _ _ _ _ _ (185, [(7, vI (nI b)), (6, vI (msnM σ m A p q x w)), (5, vI (nI q)), (4, vI (tgtF σ m A p x)), (0, vR (some m)), (1, vI (nI p)), (2, vI x), (3, vI w)], [], sI (sI (mvS (sI σ 500000 m 0 0) m A p q b n z w (tgtF σ m A p x) t) 610000 (A 10) b 1) 770000 (A 26) ((nI p).toNatClampNeg) 1, 0, 0)
                rw [show (nI p : Int32).toNatClampNeg = p from nI_clamp (n := p) (by omega)]
                refine w_run 1 (S' := (186, [(7, vI (nI b)), (6, vI (msnM σ m A p q x w)), (5, vI (nI q)), (4, vI (tgtF σ m A p x)), (0, vR (some m)), (1, vI (nI p)), (2, vI x), (3, vI w)], [vI 0], sI (sI (mvS (sI σ 500000 m 0 0) m A p q b n z w (tgtF σ m A p x) t) 610000 (A 10) b 1) 770000 (A 26) p 1, 0, 0)) rfl ?_
                exact w_iret rfl (Or.inl rfl) (by omega) (by omega) (⟨by rw [msnF, if_neg (Int32.not_lt.mpr c2), if_neg (not_not_intro c3), if_neg (fun h9 => c4 h9.1), if_neg (not_not_intro c5), if_neg (not_not_intro c13)], by rw [msnF, if_neg (Int32.not_lt.mpr c2), if_neg (not_not_intro c3), if_neg (fun h9 => c4 h9.1), if_neg (not_not_intro c5), if_neg (not_not_intro c13)]; exact cg2 (fun a9 b9 => sI a9 770000 (A 26) p b9) (by rw [msnS, hmw, if_neg i32_10]) (by rw [if_pos hwt])⟩)
              · have hwt : σ.1 770000 (A 26) p = 0 := ((rII (by decide)).trans ((mvS_w (by decide) _ _).trans (rII (by decide))) : (sI (mvS (sI σ 500000 m 0 0) m A p q b n z w (tgtF σ m A p x) t) 610000 (A 10) b 1).1 770000 (A 26) p = σ.1 770000 (A 26) p) ▸ c15
                refine w_run 1 (S' := (176, [(7, vI (nI b)), (6, vI (msnM σ m A p q x w)), (5, vI (nI q)), (4, vI (tgtF σ m A p x)), (0, vR (some m)), (1, vI (nI p)), (2, vI x), (3, vI w)], [vI w, vI (nI p), vR ((mvS (sI σ 500000 m 0 0) m A p q b n z w (tgtF σ m A p x) t).2.1 502977 m 0)], sI (mvS (sI σ 500000 m 0 0) m A p q b n z w (tgtF σ m A p x) t) 610000 (A 10) b 1, 0, 0)) rfl ?_
                refine w_if_ne rfl (fun c16 => ?_) (fun c16 => (absurd c16 c6))
                refine w_run 1 (S' := (184, [(7, vI (nI b)), (6, vI (msnM σ m A p q x w)), (5, vI (nI q)), (4, vI (tgtF σ m A p x)), (0, vR (some m)), (1, vI (nI p)), (2, vI x), (3, vI w)], [vI 0, vI (nI p), vR ((mvS (sI σ 500000 m 0 0) m A p q b n z w (tgtF σ m A p x) t).2.1 502977 m 0)], sI (mvS (sI σ 500000 m 0 0) m A p q b n z w (tgtF σ m A p x) t) 610000 (A 10) b 1, 0, 0)) rfl ?_
                refine w_zast (k := 77) rfl ((hM1.2 26 (by decide)).1) ((hM1.2 26 (by decide)).2) rfl (show vp_in (nI p) 4 from vp_in_nI (n := p) (by omega) (by decide)) (Or.inl rfl) ?_
                show WG _ _ _ _ _ _ _ (185, [(7, vI (nI b)), (6, vI (msnM σ m A p q x w)), (5, vI (nI q)), (4, vI (tgtF σ m A p x)), (0, vR (some m)), (1, vI (nI p)), (2, vI x), (3, vI w)], [], sI (sI (mvS (sI σ 500000 m 0 0) m A p q b n z w (tgtF σ m A p x) t) 610000 (A 10) b 1) 770000 (A 26) ((nI p).toNatClampNeg) 0, 0, 0)
                rw [show (nI p : Int32).toNatClampNeg = p from nI_clamp (n := p) (by omega)]
                refine w_run 1 (S' := (186, [(7, vI (nI b)), (6, vI (msnM σ m A p q x w)), (5, vI (nI q)), (4, vI (tgtF σ m A p x)), (0, vR (some m)), (1, vI (nI p)), (2, vI x), (3, vI w)], [vI 0], sI (sI (mvS (sI σ 500000 m 0 0) m A p q b n z w (tgtF σ m A p x) t) 610000 (A 10) b 1) 770000 (A 26) p 0, 0, 0)) rfl ?_
                exact w_iret rfl (Or.inl rfl) (by omega) (by omega) (⟨by rw [msnF, if_neg (Int32.not_lt.mpr c2), if_neg (not_not_intro c3), if_neg (fun h9 => c4 h9.1), if_neg (not_not_intro c5), if_neg (not_not_intro c13)], by rw [msnF, if_neg (Int32.not_lt.mpr c2), if_neg (not_not_intro c3), if_neg (fun h9 => c4 h9.1), if_neg (not_not_intro c5), if_neg (not_not_intro c13)]; exact cg2 (fun a9 b9 => sI a9 770000 (A 26) p b9) (by rw [msnS, hmw, if_neg i32_10]) (by rw [if_neg (not_not_intro hwt), if_neg c16])⟩)
            · refine w_run 1 (S' := (108, [(6, vI (msnM σ m A p q x w)), (5, vI (nI q)), (4, vI (tgtF σ m A p x)), (0, vR (some m)), (1, vI (nI p)), (2, vI x), (3, vI w)], [vI (-4)], sI σ 500000 m 0 0, 0, 0)) rfl ?_
              exact w_iret rfl (Or.inl rfl) (by omega) (by omega) (⟨by rw [msnF, if_neg (Int32.not_lt.mpr c2), if_neg (not_not_intro c3), if_neg (fun h9 => c4 h9.1), if_neg (not_not_intro c5), if_pos c13], by rw [msnF, if_neg (Int32.not_lt.mpr c2), if_neg (not_not_intro c3), if_neg (fun h9 => c4 h9.1), if_neg (not_not_intro c5), if_pos c13]⟩)
        · refine w_run 1 (S' := (63, [(4, vI (tgtF σ m A p x)), (0, vR (some m)), (1, vI (nI p)), (2, vI x), (3, vI w)], [vI (-3)], sI σ 500000 m 0 0, 0, 0)) rfl ?_
          exact w_iret rfl (Or.inl rfl) (by omega) (by omega) (⟨by rw [msnF, if_neg (Int32.not_lt.mpr c2), if_neg (not_not_intro c3), if_neg (fun h9 => c4 h9.1), if_pos c5], by rw [msnF, if_neg (Int32.not_lt.mpr c2), if_neg (not_not_intro c3), if_neg (fun h9 => c4 h9.1), if_pos c5]⟩)
      · refine w_run 1 (S' := (42, [(4, vI (tgtF σ m A p x)), (0, vR (some m)), (1, vI (nI p)), (2, vI x), (3, vI w)], [vR (some m)], sI σ 500000 m 0 0, 0, 0)) rfl ?_
        refine w_get (k := 50) (vR (σ.2.1 502977 m 0)) rfl rfl rfl hM.1 rfl rfl ?_
        refine w_run 1 (S' := (46, [(4, vI (tgtF σ m A p x)), (0, vR (some m)), (1, vI (nI p)), (2, vI x), (3, vI w)], [vI (nI p), vR (σ.2.1 502977 m 0)], sI σ 500000 m 0 0, 0, 0)) rfl ?_
        refine w_zald (k := 77) rfl ((hM.2 26 (by decide)).1) ((hM.2 26 (by decide)).2) rfl (show vp_in (nI p) 4 from vp_in_nI (n := p) (by omega) (by decide)) ?_
        show WG _ _ _ _ _ _ _ (47, [(4, vI (tgtF σ m A p x)), (0, vR (some m)), (1, vI (nI p)), (2, vI x), (3, vI w)], [vI ((sI σ 500000 m 0 0).1 770000 (A 26) (nI p).toNatClampNeg)], sI σ 500000 m 0 0, 0, 0)
        rw [show (nI p : Int32).toNatClampNeg = p from nI_clamp (n := p) (by omega)]
        show WG _ _ _ _ _ _ _ (47, [(4, vI (tgtF σ m A p x)), (0, vR (some m)), (1, vI (nI p)), (2, vI x), (3, vI w)], [vI (σ.1 770000 (A 26) p)], sI σ 500000 m 0 0, 0, 0)
        refine w_if_eq rfl (fun c17 => ?_) (fun c17 => ?_)
        · refine w_run 2 (S' := (55, [(4, vI (tgtF σ m A p x)), (0, vR (some m)), (1, vI (nI p)), (2, vI x), (3, vI w)], [vI (nI p), vR (some m)], sI σ 500000 m 0 0, 0, 0)) rfl ?_
          refine w_callV (st := []) [vI (nI p)] rfl ml_10_184 rfl rfl hM.1 rfl rfl rfl (by simp only [RM]; omega) (by simp only [RM]; show 8 + (4 + 11) + _ ≤ _; omega) rfl (by simp only [RM]; omega) (by simp only [RM]; omega) (c_mo_isBad l E (d - 1) (sI σ 500000 m 0 0) m A p n 0 hM (by omega) hp hn hit) (fun _ _ h => h.elim) ?_
          intro r9 s9 q9
          rw [q9.1, q9.2]
          clear q9 r9 s9
          show WG _ _ _ _ _ _ _ (58, [(4, vI (tgtF σ m A p x)), (0, vR (some m)), (1, vI (nI p)), (2, vI x), (3, vI w)], [vI (itF (badF σ m A p) n 0 0)], sI σ 500000 m 0 0, 0, 0)
          refine w_if_eq rfl (fun c18 => ?_) (fun c18 => ?_)
          · refine w_run 1 (S' := (66, [(4, vI (tgtF σ m A p x)), (0, vR (some m)), (1, vI (nI p)), (2, vI x), (3, vI w)], [vI (tgtF σ m A p x)], sI σ 500000 m 0 0, 0, 0)) rfl ?_
            refine w_callS (st := []) [vI (tgtF σ m A p x)] rfl ml_10_111 rfl (by simp only [RM]; omega) (by simp only [RM]; show 8 + (1 + 11) + _ ≤ _; omega) rfl (by simp only [RM]; omega) (by simp only [RM]; omega) ((hqe ▸ c_mo_processOfI l E (d - 1) (sI σ 500000 m 0 0) (tgtF σ m A p x) (Int32.not_lt.mpr c2) : CT l E (d - 1) 74 [vI (tgtF σ m A p x)] (sI σ 500000 m 0 0) 0 0 (fun r σ9 => r = some (vI (nI q)) ∧ σ9 = sI σ 500000 m 0 0) (fun _ _ => False))) (fun _ _ h => h.elim) ?_
            intro r9 s9 q9
            rw [q9.1, q9.2]
            clear q9 r9 s9
            show WG _ _ _ _ _ _ _ (69, [(4, vI (tgtF σ m A p x)), (0, vR (some m)), (1, vI (nI p)), (2, vI x), (3, vI w)], [vI (nI q)], sI σ 500000 m 0 0, 0, 0)
            refine w_run 2 (S' := (72, [(5, vI (nI q)), (4, vI (tgtF σ m A p x)), (0, vR (some m)), (1, vI (nI p)), (2, vI x), (3, vI w)], [vI w], sI σ 500000 m 0 0, 0, 0)) rfl ?_
            refine w_if_eq rfl (fun c19 => ?_) (fun c19 => (absurd c4 c19))
            refine w_run 1 (S' := (91, [(5, vI (nI q)), (4, vI (tgtF σ m A p x)), (0, vR (some m)), (1, vI (nI p)), (2, vI x), (3, vI w)], [vI 0], sI σ 500000 m 0 0, 0, 0)) rfl ?_
            have hmw : msnM σ m A p q x w = 0 := if_pos c19
            refine Eq.mp (congrArg (fun x9 => WG _ _ _ _ _ _ _ (91, [(5, vI (nI q)), (4, vI (tgtF σ m A p x)), (0, vR (some m)), (1, vI (nI p)), (2, vI x), (3, vI w)], [vI x9], sI σ 500000 m 0 0, 0, 0)) hmw) ?_
            show WG _ _ _ _ _ _ _ (91, [(5, vI (nI q)), (4, vI (tgtF σ m A p x)), (0, vR (some m)), (1, vI (nI p)), (2, vI x), (3, vI w)], [vI (msnM σ m A p q x w)], sI σ 500000 m 0 0, 0, 0)
            refine w_run 6 (S' := (100, [(6, vI (msnM σ m A p q x w)), (5, vI (nI q)), (4, vI (tgtF σ m A p x)), (0, vR (some m)), (1, vI (nI p)), (2, vI x), (3, vI w)], [vI (msnM σ m A p q x w), vI w, vI (nI q), vI (nI p), vR (some m)], sI σ 500000 m 0 0, 0, 0)) rfl ?_
            refine w_callV (st := []) [vI (nI p), vI (nI q), vI w, vI (msnM σ m A p q x w)] rfl ml_10_190 rfl rfl hM.1 rfl rfl rfl (by simp only [RM]; omega) (by simp only [RM]; show 8 + (6 + 11) + _ ≤ _; omega) rfl (by simp only [RM]; omega) (by simp only [RM]; omega) (c_mo_isFull l E (d - 1) (sI σ 500000 m 0 0) m A p q n z w (msnM σ m A p q x w) t (by omega) hM hp hq hn hit hz hsz (hg (Int32.not_lt.mpr c2) c3)) (fun _ _ h => h.elim) ?_
            intro r9 s9 q9
            rw [q9.1, q9.2]
            clear q9 r9 s9
            show WG _ _ _ _ _ _ _ (103, [(6, vI (msnM σ m A p q x w)), (5, vI (nI q)), (4, vI (tgtF σ m A p x)), (0, vR (some m)), (1, vI (nI p)), (2, vI x), (3, vI w)], [vI (flF σ m A p q n z w (msnM σ m A p q x w) t)], sI σ 500000 m 0 0, 0, 0)
            refine w_if_eq rfl (fun c20 => ?_) (fun c20 => ?_)
            · obtain ⟨⟨hb1, hb2, hb0, hb3, hW6⟩, hIV, hI0⟩ := hr (Int32.not_lt.mpr c2) c3 c20
              have hM1 : MO (mvS (sI σ 500000 m 0 0) m A p q b n z w (tgtF σ m A p x) t) m A := MO.of2 hM mvS_O
              refine w_run 5 (S' := (116, [(6, vI (msnM σ m A p q x w)), (5, vI (nI q)), (4, vI (tgtF σ m A p x)), (0, vR (some m)), (1, vI (nI p)), (2, vI x), (3, vI w)], [vI (tgtF σ m A p x), vI w, vI (nI q), vI (nI p), vR (some m)], sI σ 500000 m 0 0, 0, 0)) rfl ?_
              refine w_callV (st := []) [vI (nI p), vI (nI q), vI w, vI (tgtF σ m A p x)] rfl ml_10_194 rfl rfl hM.1 rfl rfl rfl (by simp only [RM]; omega) (by simp only [RM]; show 8 + (11 + 11) + _ ≤ _; omega) rfl (by simp only [RM]; omega) (by simp only [RM]; omega) (c_mo_moves l E (d - 1) (sI σ 500000 m 0 0) m A p q b n z w (tgtF σ m A p x) t IV (by omega) hM hp hq hn hit hz hsz hw1 (hg (Int32.not_lt.mpr c2) c3) hb1 hb2 hb0 hb3 hIV hI0) (fun _ _ h => h.elim) ?_
              intro r9 s9 q9
              rw [q9.1, q9.2]
              clear q9 r9 s9
              show WG _ _ _ _ _ _ _ (119, [(6, vI (msnM σ m A p q x w)), (5, vI (nI q)), (4, vI (tgtF σ m A p x)), (0, vR (some m)), (1, vI (nI p)), (2, vI x), (3, vI w)], [vI (nI b)], mvS (sI σ 500000 m 0 0) m A p q b n z w (tgtF σ m A p x) t, 0, 0)
              refine w_run 2 (S' := (123, [(7, vI (nI b)), (6, vI (msnM σ m A p q x w)), (5, vI (nI q)), (4, vI (tgtF σ m A p x)), (0, vR (some m)), (1, vI (nI p)), (2, vI x), (3, vI w)], [vI (msnM σ m A p q x w)], mvS (sI σ 500000 m 0 0) m A p q b n z w (tgtF σ m A p x) t, 0, 0)) rfl ?_
              refine w_if_eq rfl (fun c21 => ?_) (fun c21 => (absurd hmw c21))
              refine w_run 3 (S' := (141, [(7, vI (nI b)), (6, vI (msnM σ m A p q x w)), (5, vI (nI q)), (4, vI (tgtF σ m A p x)), (0, vR (some m)), (1, vI (nI p)), (2, vI x), (3, vI w)], [vI w, vI (nI q), vR (some m)], mvS (sI σ 500000 m 0 0) m A p q b n z w (tgtF σ m A p x) t, 0, 0)) rfl ?_
              refine w_if_eq rfl (fun c22 => ?_) (fun c22 => (absurd c19 c22))
              refine w_run 4 (S' := (155, [(7, vI (nI b)), (6, vI (msnM σ m A p q x w)), (5, vI (nI q)), (4, vI (tgtF σ m A p x)), (0, vR (some m)), (1, vI (nI p)), (2, vI x), (3, vI w)], [vI 10, vI (tgtF σ m A p x), vI (nI b), vI 1, vI (nI q), vR (some m)], mvS (sI σ 500000 m 0 0) m A p q b n z w (tgtF σ m A p x) t, 0, 0)) rfl ?_
              refine w_irem rfl (by decide) ?_
              refine w_run 2 (S' := (158, [(7, vI (nI b)), (6, vI (msnM σ m A p q x w)), (5, vI (nI q)), (4, vI (tgtF σ m A p x)), (0, vR (some m)), (1, vI (nI p)), (2, vI x), (3, vI w)], [vI 0, vI (nI p), vI ((tgtF σ m A p x) - (tgtF σ m A p x) / 10 * 10), vI (nI b), vI 1, vI (nI q), vR (some m)], mvS (sI σ 500000 m 0 0) m A p q b n z w (tgtF σ m A p x) t, 0, 0)) rfl ?_
              refine w_callV (st := []) [vI (nI q), vI 1, vI (nI b), vI ((tgtF σ m A p x) - (tgtF σ m A p x) / 10 * 10), vI (nI p), vI 0] rfl ml_10_119 rfl rfl hM1.1 rfl rfl rfl (by simp only [RM]; omega) (by simp only [RM]; show 8 + (8 + 11) + _ ≤ _; omega) rfl (by simp only [RM]; omega) (by simp only [RM]; omega) (c_mo_comes l E (d - 1) (mvS (sI σ 500000 m 0 0) m A p q b n z w (tgtF σ m A p x) t) m A q W 1 (nI b) (tgtF σ m A p x - tgtF σ m A p x / 10 * 10) (nI p) 0 hM1 hq ((mvS_w (by decide) _ _).trans hW) hW6 (fun _ => by rw [nI_clamp (by omega)]; exact hp)) (fun _ _ h => h.elim) ?_
              intro r9 s9 q9
              rw [q9.1, q9.2]
              clear q9 r9 s9
              show WG _ _ _ _ _ _ _ (161, [(7, vI (nI b)), (6, vI (msnM σ m A p q x w)), (5, vI (nI q)), (4, vI (tgtF σ m A p x)), (0, vR (some m)), (1, vI (nI p)), (2, vI x), (3, vI w)], [], cmS (mvS (sI σ 500000 m 0 0) m A p q b n z w (tgtF σ m A p x) t) A q W 1 (nI b) (tgtF σ m A p x - tgtF σ m A p x / 10 * 10) (nI p) 0, 0, 0)
              refine w_run 1 (S' := (162, [(7, vI (nI b)), (6, vI (msnM σ m A p q x w)), (5, vI (nI q)), (4, vI (tgtF σ m A p x)), (0, vR (some m)), (1, vI (nI p)), (2, vI x), (3, vI w)], [vR (some m)], cmS (mvS (sI σ 500000 m 0 0) m A p q b n z w (tgtF σ m A p x) t) A q W 1 (nI b) (tgtF σ m A p x - tgtF σ m A p x / 10 * 10) (nI p) 0, 0, 0)) rfl ?_
              refine w_get (k := 50) (vR ((cmS (mvS (sI σ 500000 m 0 0) m A p q b n z w (tgtF σ m A p x) t) A q W 1 (nI b) (tgtF σ m A p x - tgtF σ m A p x / 10 * 10) (nI p) 0).2.1 502977 m 0)) rfl rfl rfl hM1.1 rfl rfl ?_
              refine w_run 2 (S' := (167, [(7, vI (nI b)), (6, vI (msnM σ m A p q x w)), (5, vI (nI q)), (4, vI (tgtF σ m A p x)), (0, vR (some m)), (1, vI (nI p)), (2, vI x), (3, vI w)], [vR (some m), vI (nI p), vR ((cmS (mvS (sI σ 500000 m 0 0) m A p q b n z w (tgtF σ m A p x) t) A q W 1 (nI b) (tgtF σ m A p x - tgtF σ m A p x / 10 * 10) (nI p) 0).2.1 502977 m 0)], cmS (mvS (sI σ 500000 m 0 0) m A p q b n z w (tgtF σ m A p x) t) A q W 1 (nI b) (tgtF σ m A p x - tgtF σ m A p x / 10 * 10) (nI p) 0, 0, 0)) rfl ?_
              refine w_get (k := 50) (vR ((cmS (mvS (sI σ 500000 m 0 0) m A p q b n z w (tgtF σ m A p x) t) A q W 1 (nI b) (tgtF σ m A p x - tgtF σ m A p x / 10 * 10) (nI p) 0).2.1 502977 m 0)) rfl rfl rfl hM1.1 rfl rfl ?_
              refine w_run 1 (S' := (171, [(7, vI (nI b)), (6, vI (msnM σ m A p q x w)), (5, vI (nI q)), (4, vI (tgtF σ m A p x)), (0, vR (some m)), (1, vI (nI p)), (2, vI x), (3, vI w)], [vI (nI p), vR ((cmS (mvS (sI σ 500000 m 0 0) m A p q b n z w (tgtF σ m A p x) t) A q W 1 (nI b) (tgtF σ m A p x - tgtF σ m A p x / 10 * 10) (nI p) 0).2.1 502977 m 0), vI (nI p), vR ((cmS (mvS (sI σ 500000 m 0 0) m A p q b n z w (tgtF σ m A p x) t) A q W 1 (nI b) (tgtF σ m A p x - tgtF σ m A p x / 10 * 10) (nI p) 0).2.1 502977 m 0)], cmS (mvS (sI σ 500000 m 0 0) m A p q b n z w (tgtF σ m A p x) t) A q W 1 (nI b) (tgtF σ m A p x - tgtF σ m A p x / 10 * 10) (nI p) 0, 0, 0)) rfl ?_
              refine w_zald (k := 77) rfl ((hM1.2 26 (by decide)).1) ((hM1.2 26 (by decide)).2) rfl (show vp_in (nI p) 4 from vp_in_nI (n := p) (by omega) (by decide)) ?_
              show WG _ _ _ _ _ _ _ (172, [(7, vI (nI b)), (6, vI (msnM σ m A p q x w)), (5, vI (nI q)), (4, vI (tgtF σ m A p x)), (0, vR (some m)), (1, vI (nI p)), (2, vI x), (3, vI w)], [vI ((cmS (mvS (sI σ 500000 m 0 0) m A p q b n z w (tgtF σ m A p x) t) A q W 1 (nI b) (tgtF σ m A p x - tgtF σ m A p x / 10 * 10) (nI p) 0).1 770000 (A 26) (nI p).toNatClampNeg), vI (nI p), vR ((cmS (mvS (sI σ 500000 m 0 0) m A p q b n z w (tgtF σ m A p x) t) A q W 1 (nI b) (tgtF σ m A p x - tgtF σ m A p x / 10 * 10) (nI p) 0).2.1 502977 m 0)], cmS (mvS (sI σ 500000 m 0 0) m A p q b n z w (tgtF σ m A p x) t) A q W 1 (nI b) (tgtF σ m A p x - tgtF σ m A p x / 10 * 10) (nI p) 0, 0, 0)
              rw [show (nI p : Int32).toNatClampNeg = p from nI_clamp (n := p) (by omega)]
              show WG _ _ _ _ _ _ _ (172, [(7, vI (nI b)), (6, vI (msnM σ m A p q x w)), (5, vI (nI q)), (4, vI (tgtF σ m A p x)), (0, vR (some m)), (1, vI (nI p)), (2, vI x), (3, vI w)], [vI ((cmS (mvS (sI σ 500000 m 0 0) m A p q b n z w (tgtF σ m A p x) t) A q W 1 (nI b) (tgtF σ m A p x - tgtF σ m A p x / 10 * 10) (nI p) 0).1 770000 (A 26) p), vI (nI p), vR ((cmS (mvS (sI σ 500000 m 0 0) m A p q b n z w (tgtF σ m A p x) t) A q W 1 (nI b) (tgtF σ m A p x - tgtF σ m A p x / 10 * 10) (nI p) 0).2.1 502977 m 0)], cmS (mvS (sI σ 500000 m 0 0) m A p q b n z w (tgtF σ m A p x) t) A q W 1 (nI b) (tgtF σ m A p x - tgtF σ m A p x / 10 * 10) (nI p) 0, 0, 0)
              refine w_if_ne rfl (fun c23 => ?_) (fun c23 => ?_)
              · have hwt : ¬ σ.1 770000 (A 26) p = 0 := ((cm_w (by decide) (by decide)).trans ((mvS_w (by decide) _ _).trans (rII (by decide))) : (cmS (mvS (sI σ 500000 m 0 0) m A p q b n z w (tgtF σ m A p x) t) A q W 1 (nI b) (tgtF σ m A p x - tgtF σ m A p x / 10 * 10) (nI p) 0).1 770000 (A 26) p = σ.1 770000 (A 26) p) ▸ c23
                refine w_run 2 (S' := (184, [(7, vI (nI b)), (6, vI (msnM σ m A p q x w)), (5, vI (nI q)), (4, vI (tgtF σ m A p x)), (0, vR (some m)), (1, vI (nI p)), (2, vI x), (3, vI w)], [vI 1, vI (nI p), vR ((cmS (mvS (sI σ 500000 m 0 0) m A p q b n z w (tgtF σ m A p x) t) A q W 1 (nI b) (tgtF σ m A p x - tgtF σ m A p x / 10 * 10) (nI p) 0).2.1 502977 m 0)], cmS (mvS (sI σ 500000 m 0 0) m A p q b n z w (tgtF σ m A p x) t) A q W 1 (nI b) (tgtF σ m A p x - tgtF σ m A p x / 10 * 10) (nI p) 0, 0, 0)) rfl ?_
                refine w_zast (k := 77) rfl ((hM1.2 26 (by decide)).1) ((hM1.2 26 (by decide)).2) rfl (show vp_in (nI p) 4 from vp_in_nI (n := p) (by omega) (by decide)) (Or.inr rfl) ?_
                show WG _ _ _ _ _ _ _ (185, [(7, vI (nI b)), (6, vI (msnM σ m A p q x w)), (5, vI (nI q)), (4, vI (tgtF σ m A p x)), (0, vR (some m)), (1, vI (nI p)), (2, vI x), (3, vI w)], [], sI (cmS (mvS (sI σ 500000 m 0 0) m A p q b n z w (tgtF σ m A p x) t) A q W 1 (nI b) (tgtF σ m A p x - tgtF σ m A p x / 10 * 10) (nI p) 0) 770000 (A 26) ((nI p).toNatClampNeg) 1, 0, 0)
                rw [show (nI p : Int32).toNatClampNeg = p from nI_clamp (n := p) (by omega)]
                refine w_run 1 (S' := (186, [(7, vI (nI b)), (6, vI (msnM σ m A p q x w)), (5, vI (nI q)), (4, vI (tgtF σ m A p x)), (0, vR (some m)), (1, vI (nI p)), (2, vI x), (3, vI w)], [vI 0], sI (cmS (mvS (sI σ 500000 m 0 0) m A p q b n z w (tgtF σ m A p x) t) A q W 1 (nI b) (tgtF σ m A p x - tgtF σ m A p x / 10 * 10) (nI p) 0) 770000 (A 26) p 1, 0, 0)) rfl ?_
                exact w_iret rfl (Or.inl rfl) (by omega) (by omega) (⟨by rw [msnF, if_neg (Int32.not_lt.mpr c2), if_neg (not_not_intro c3), if_neg (fun h9 => h9.2 c17), if_neg (not_not_intro c18), if_neg (not_not_intro c20)], by rw [msnF, if_neg (Int32.not_lt.mpr c2), if_neg (not_not_intro c3), if_neg (fun h9 => h9.2 c17), if_neg (not_not_intro c18), if_neg (not_not_intro c20)]; exact cg2 (fun a9 b9 => sI a9 770000 (A 26) p b9) (by rw [msnS, hmw, if_pos (rfl : (0 : Int32) = 0), if_pos c19]) (by rw [if_pos hwt])⟩)
              · have hwt : σ.1 770000 (A 26) p = 0 := ((cm_w (by decide) (by decide)).trans ((mvS_w (by decide) _ _).trans (rII (by decide))) : (cmS (mvS (sI σ 500000 m 0 0) m A p q b n z w (tgtF σ m A p x) t) A q W 1 (nI b) (tgtF σ m A p x - tgtF σ m A p x / 10 * 10) (nI p) 0).1 770000 (A 26) p = σ.1 770000 (A 26) p) ▸ c23
                refine w_run 1 (S' := (176, [(7, vI (nI b)), (6, vI (msnM σ m A p q x w)), (5, vI (nI q)), (4, vI (tgtF σ m A p x)), (0, vR (some m)), (1, vI (nI p)), (2, vI x), (3, vI w)], [vI w, vI (nI p), vR ((cmS (mvS (sI σ 500000 m 0 0) m A p q b n z w (tgtF σ m A p x) t) A q W 1 (nI b) (tgtF σ m A p x - tgtF σ m A p x / 10 * 10) (nI p) 0).2.1 502977 m 0)], cmS (mvS (sI σ 500000 m 0 0) m A p q b n z w (tgtF σ m A p x) t) A q W 1 (nI b) (tgtF σ m A p x - tgtF σ m A p x / 10 * 10) (nI p) 0, 0, 0)) rfl ?_
                refine w_if_ne rfl (fun c24 => (absurd c22 c24)) (fun c24 => ?_)
                refine w_run 2 (S' := (184, [(7, vI (nI b)), (6, vI (msnM σ m A p q x w)), (5, vI (nI q)), (4, vI (tgtF σ m A p x)), (0, vR (some m)), (1, vI (nI p)), (2, vI x), (3, vI w)], [vI 1, vI (nI p), vR ((cmS (mvS (sI σ 500000 m 0 0) m A p q b n z w (tgtF σ m A p x) t) A q W 1 (nI b) (tgtF σ m A p x - tgtF σ m A p x / 10 * 10) (nI p) 0).2.1 502977 m 0)], cmS (mvS (sI σ 500000 m 0 0) m A p q b n z w (tgtF σ m A p x) t) A q W 1 (nI b) (tgtF σ m A p x - tgtF σ m A p x / 10 * 10) (nI p) 0, 0, 0)) rfl ?_
                refine w_zast (k := 77) rfl ((hM1.2 26 (by decide)).1) ((hM1.2 26 (by decide)).2) rfl (show vp_in (nI p) 4 from vp_in_nI (n := p) (by omega) (by decide)) (Or.inr rfl) ?_
                show WG _ _ _ _ _ _ _ (185, [(7, vI (nI b)), (6, vI (msnM σ m A p q x w)), (5, vI (nI q)), (4, vI (tgtF σ m A p x)), (0, vR (some m)), (1, vI (nI p)), (2, vI x), (3, vI w)], [], sI (cmS (mvS (sI σ 500000 m 0 0) m A p q b n z w (tgtF σ m A p x) t) A q W 1 (nI b) (tgtF σ m A p x - tgtF σ m A p x / 10 * 10) (nI p) 0) 770000 (A 26) ((nI p).toNatClampNeg) 1, 0, 0)
                rw [show (nI p : Int32).toNatClampNeg = p from nI_clamp (n := p) (by omega)]
                refine w_run 1 (S' := (186, [(7, vI (nI b)), (6, vI (msnM σ m A p q x w)), (5, vI (nI q)), (4, vI (tgtF σ m A p x)), (0, vR (some m)), (1, vI (nI p)), (2, vI x), (3, vI w)], [vI 0], sI (cmS (mvS (sI σ 500000 m 0 0) m A p q b n z w (tgtF σ m A p x) t) A q W 1 (nI b) (tgtF σ m A p x - tgtF σ m A p x / 10 * 10) (nI p) 0) 770000 (A 26) p 1, 0, 0)) rfl ?_
                exact w_iret rfl (Or.inl rfl) (by omega) (by omega) (⟨by rw [msnF, if_neg (Int32.not_lt.mpr c2), if_neg (not_not_intro c3), if_neg (fun h9 => h9.2 c17), if_neg (not_not_intro c18), if_neg (not_not_intro c20)], by rw [msnF, if_neg (Int32.not_lt.mpr c2), if_neg (not_not_intro c3), if_neg (fun h9 => h9.2 c17), if_neg (not_not_intro c18), if_neg (not_not_intro c20)]; exact cg2 (fun a9 b9 => sI a9 770000 (A 26) p b9) (by rw [msnS, hmw, if_pos (rfl : (0 : Int32) = 0), if_pos c19]) (by rw [if_neg (not_not_intro hwt), if_pos c24])⟩)
            · refine w_run 1 (S' := (108, [(6, vI (msnM σ m A p q x w)), (5, vI (nI q)), (4, vI (tgtF σ m A p x)), (0, vR (some m)), (1, vI (nI p)), (2, vI x), (3, vI w)], [vI (-4)], sI σ 500000 m 0 0, 0, 0)) rfl ?_
              exact w_iret rfl (Or.inl rfl) (by omega) (by omega) (⟨by rw [msnF, if_neg (Int32.not_lt.mpr c2), if_neg (not_not_intro c3), if_neg (fun h9 => h9.2 c17), if_neg (not_not_intro c18), if_pos c20], by rw [msnF, if_neg (Int32.not_lt.mpr c2), if_neg (not_not_intro c3), if_neg (fun h9 => h9.2 c17), if_neg (not_not_intro c18), if_pos c20]⟩)
          · refine w_run 1 (S' := (63, [(4, vI (tgtF σ m A p x)), (0, vR (some m)), (1, vI (nI p)), (2, vI x), (3, vI w)], [vI (-3)], sI σ 500000 m 0 0, 0, 0)) rfl ?_
            exact w_iret rfl (Or.inl rfl) (by omega) (by omega) (⟨by rw [msnF, if_neg (Int32.not_lt.mpr c2), if_neg (not_not_intro c3), if_neg (fun h9 => h9.2 c17), if_pos c18], by rw [msnF, if_neg (Int32.not_lt.mpr c2), if_neg (not_not_intro c3), if_neg (fun h9 => h9.2 c17), if_pos c18]⟩)
        · refine w_run 1 (S' := (52, [(4, vI (tgtF σ m A p x)), (0, vR (some m)), (1, vI (nI p)), (2, vI x), (3, vI w)], [vI (-5)], sI σ 500000 m 0 0, 0, 0)) rfl ?_
          exact w_iret rfl (Or.inl rfl) (by omega) (by omega) (⟨by rw [msnF, if_neg (Int32.not_lt.mpr c2), if_neg (not_not_intro c3), if_pos ⟨c4, c17⟩], by rw [msnF, if_neg (Int32.not_lt.mpr c2), if_neg (not_not_intro c3), if_pos ⟨c4, c17⟩]⟩)
    · refine w_run 1 (S' := (36, [(4, vI (tgtF σ m A p x)), (0, vR (some m)), (1, vI (nI p)), (2, vI x), (3, vI w)], [vI (-2)], sI σ 500000 m 0 0, 0, 0)) rfl ?_
      exact w_iret rfl (Or.inl rfl) (by omega) (by omega) (⟨by rw [msnF, if_neg (Int32.not_lt.mpr c2), if_pos c3], by rw [msnF, if_neg (Int32.not_lt.mpr c2), if_pos c3]⟩)
  · refine w_run 1 (S' := (24, [(4, vI (tgtF σ m A p x)), (0, vR (some m)), (1, vI (nI p)), (2, vI x), (3, vI w)], [vI (-1)], sI σ 500000 m 0 0, 0, 0)) rfl ?_
    exact w_iret rfl (Or.inl rfl) (by omega) (by omega) (⟨by rw [msnF, if_pos (Int32.not_le.mp c2)], by rw [msnF, if_pos (Int32.not_le.mp c2)]⟩)

def mrpS (σ : Sg) (m : Nat) (A : Nat → Nat) (p q b n z W O : Nat) (t : Int32) : Sg := cmS (mvS (sI (sI σ 500000 m 0 0) 740000 (A 23) p (nI O - 1)) m A p q b n z 0 (-1) t) A q W 3 (nI b) (-1) (nI p) 0
def mrpF (σ : Sg) (m : Nat) (A : Nat → Nat) (p q b n z W O : Nat) (t : Int32) : Int32 × Sg :=
  if O = 0 then (-1, sI σ 500000 m 0 0) else if σ.1 510000 (A 0) q = 0 then (-2, sI (sI σ 500000 m 0 0) 740000 (A 23) p (nI O - 1)) else if ¬ σ.1 520000 (A 1) q = σ.1 760000 (A 25) (12 * p + O - 1) then (-2, sI (sI σ 500000 m 0 0) 740000 (A 23) p (nI O - 1)) else if ¬ itF (badF σ m A p) n 0 0 = 0 then (-3, sI σ 500000 m 0 0) else if ¬ flF σ m A p q n z 0 0 t = 0 then (-4, sI σ 500000 m 0 0) else (0, mrpS σ m A p q b n z W O t)
set_option maxRecDepth 20000 in
set_option maxHeartbeats 4000000 in
theorem c_mo_reply1 (l : Launch) (E : FE) (d : Nat) (σ : Sg) (m : Nat) (A : Nat → Nat) (p : Nat) (q b n z W O : Nat) (t : Int32) (IV : Nat → Sg → Prop) (hd : 3 ≤ d) (hM : MO σ m A) (hp : p < 4) (hal : ¬ σ.1 510000 (A 0) p = 0) (hd5 : 5 ≤ d) (hn : n ≤ 4) (hit : σ.1 570000 (A 6) p = nI n) (hz : z ≤ 20) (hsz : σ.1 580000 (A 7) p = nI z) (hO : σ.1 740000 (A 23) p = nI O) (hO12 : O ≤ 12) (hc : ¬ O = 0 → σ.1 750000 (A 24) (12 * p + O - 1) = nI q ∧ q < 4) (hg : ¬ O = 0 → ¬ σ.1 510000 (A 0) q = 0 → σ.1 520000 (A 1) q = σ.1 760000 (A 25) (12 * p + O - 1) → gapF (nxS σ A q) (bhS σ A q) (nI (max 1 (n + z))) 66 0 (-1) 65 = some t) (hW : σ.1 720000 (A 21) q = nI W) (hr : ¬ O = 0 → ¬ σ.1 510000 (A 0) q = 0 → σ.1 520000 (A 1) q = σ.1 760000 (A 25) (12 * p + O - 1) → flF σ m A p q n z 0 0 t = 0 → (64 * q ≤ b ∧ b < 64 * q + 64 ∧ σ.1 610000 (A 10) b ≤ 0 ∧ (∀ i, 64 * q ≤ i → i < b → ¬ σ.1 610000 (A 10) i ≤ 0) ∧ W < 64) ∧ (∀ i τ, i < n → IV i τ → IV (i + 1) (mv2 A p q b i τ) ∧ (¬ τ.1 710000 (A 20) (4 * b + i) < 0 → hmO τ A q (τ.1 710000 (A 20) (4 * b + i)) = 0 → hmK τ A q (τ.1 710000 (A 20) (4 * b + i)) ≤ 0 → ∃ j, 1 ≤ j ∧ j < 16 ∧ hhF (τ.1 550000 (A 4)) (τ.1 560000 (A 5)) q (nI j) = 0)) ∧ IV 0 (itF (mv1 A m p b) n 0 (mvA (sI (sI σ 500000 m 0 0) 740000 (A 23) p (nI O - 1)) m A p b n z 0 (-1) t))) : CT l E d 106 [vR (some m), vI (nI p)] σ 0 0 (fun r σ' => r = some (vI (mrpF σ m A p q b n z W O t).1) ∧ σ' = (mrpF σ m A p q b n z W O t).2) (fun _ _ => False) := by
  refine CTo ok_mo_reply (by decide +kernel) rfl rfl rfl ?_
  refine w_run 2 (S' := (2, [(0, vR (some m)), (1, vI (nI p))], [vI (nI p), vR (some m)], σ, 0, 0)) rfl ?_
  refine w_callV (st := []) [vI (nI p)] rfl ml_10_123 rfl rfl hM.1 rfl rfl rfl (by simp only [RM]; omega) (by simp only [RM]; show 8 + (2 + 11) + _ ≤ _; omega) rfl (by simp only [RM]; omega) (by simp only [RM]; omega) (c_mo_absent0 l E (d - 1) σ m A p hM hp hal) (fun _ _ h => h.elim) ?_
  intro r9 s9 q9
  rw [q9.1, q9.2]
  clear q9 r9 s9
  show WG _ _ _ _ _ _ _ (5, [(0, vR (some m)), (1, vI (nI p))], [vI 0], sI σ 500000 m 0 0, 0, 0)
  refine w_if_eq rfl (fun c1 => ?_) (fun c1 => (absurd ((nI_eq (a := 0) (b := 0) (by omega) (by omega)).mpr (by omega)) c1))
  have nc1 := (nI_eq (a := 0) (b := 0) (by omega) (by omega)).mp c1
  refine w_run 1 (S' := (11, [(0, vR (some m)), (1, vI (nI p))], [vR (some m)], sI σ 500000 m 0 0, 0, 0)) rfl ?_
  refine w_get (k := 50) (vR (σ.2.1 502674 m 0)) rfl rfl rfl hM.1 rfl rfl ?_
  refine w_run 1 (S' := (15, [(0, vR (some m)), (1, vI (nI p))], [vI (nI p), vR (σ.2.1 502674 m 0)], sI σ 500000 m 0 0, 0, 0)) rfl ?_
  refine w_iald (k := 74) rfl ((hM.2 23 (by decide)).1) ((hM.2 23 (by decide)).2) rfl (show vp_in (nI p) 4 from vp_in_nI (n := p) (by omega) (by decide)) ?_
  show WG _ _ _ _ _ _ _ (16, [(0, vR (some m)), (1, vI (nI p))], [vI ((sI σ 500000 m 0 0).1 740000 (A 23) (nI p).toNatClampNeg)], sI σ 500000 m 0 0, 0, 0)
  rw [show (nI p : Int32).toNatClampNeg = p from nI_clamp (n := p) (by omega)]
  show WG _ _ _ _ _ _ _ (16, [(0, vR (some m)), (1, vI (nI p))], [vI (σ.1 740000 (A 23) p)], sI σ 500000 m 0 0, 0, 0)
  refine Eq.mp (congrArg (fun x9 => WG _ _ _ _ _ _ _ (16, [(0, vR (some m)), (1, vI (nI p))], [vI x9], sI σ 500000 m 0 0, 0, 0)) (hO.symm : nI O = σ.1 740000 (A 23) p)) ?_
  show WG _ _ _ _ _ _ _ (16, [(0, vR (some m)), (1, vI (nI p))], [vI (nI O)], sI σ 500000 m 0 0, 0, 0)
  refine w_if_ne rfl (fun c2 => ?_) (fun c2 => ?_)
  · have nc2 := mt (nI_eq (a := O) (b := 0) (by omega) (by omega)).mpr c2
    obtain ⟨hcq, hq⟩ := hc nc2
    refine w_run 4 (S' := (26, [(0, vR (some m)), (1, vI (nI p))], [vR (some m), vI (12 * (nI p))], sI σ 500000 m 0 0, 0, 0)) rfl ?_
    rw [show (12 * (nI p) : Int32) = nI (12 * p) from by simp only [nl0, nl1, nl2, nl3, nl4, nl5, nl6, nl8, nl9, nl10, nl12, nl15, nl16, nl20, nl24, nl32, nl40, nl64, nl65, nl384, pk_mul, nI_add]]
    show WG _ _ _ _ _ _ _ (26, [(0, vR (some m)), (1, vI (nI p))], [vR (some m), vI (nI (12 * p))], sI σ 500000 m 0 0, 0, 0)
    refine w_get (k := 50) (vR (σ.2.1 502674 m 0)) rfl rfl rfl hM.1 rfl rfl ?_
    refine w_run 1 (S' := (30, [(0, vR (some m)), (1, vI (nI p))], [vI (nI p), vR (σ.2.1 502674 m 0), vI (nI (12 * p))], sI σ 500000 m 0 0, 0, 0)) rfl ?_
    refine w_iald (k := 74) rfl ((hM.2 23 (by decide)).1) ((hM.2 23 (by decide)).2) rfl (show vp_in (nI p) 4 from vp_in_nI (n := p) (by omega) (by decide)) ?_
    show WG _ _ _ _ _ _ _ (31, [(0, vR (some m)), (1, vI (nI p))], [vI ((sI σ 500000 m 0 0).1 740000 (A 23) (nI p).toNatClampNeg), vI (nI (12 * p))], sI σ 500000 m 0 0, 0, 0)
    rw [show (nI p : Int32).toNatClampNeg = p from nI_clamp (n := p) (by omega)]
    show WG _ _ _ _ _ _ _ (31, [(0, vR (some m)), (1, vI (nI p))], [vI (σ.1 740000 (A 23) p), vI (nI (12 * p))], sI σ 500000 m 0 0, 0, 0)
    refine Eq.mp (congrArg (fun x9 => WG _ _ _ _ _ _ _ (31, [(0, vR (some m)), (1, vI (nI p))], [vI x9, vI (nI (12 * p))], sI σ 500000 m 0 0, 0, 0)) (hO.symm : nI O = σ.1 740000 (A 23) p)) ?_
    show WG _ _ _ _ _ _ _ (31, [(0, vR (some m)), (1, vI (nI p))], [vI (nI O), vI (nI (12 * p))], sI σ 500000 m 0 0, 0, 0)
    refine w_run 5 (S' := (36, [(2, vI (((nI (12 * p)) + (nI O)) - 1)), (0, vR (some m)), (1, vI (nI p))], [vR (some m)], sI σ 500000 m 0 0, 0, 0)) rfl ?_
    rw [show (((nI (12 * p)) + (nI O)) - 1 : Int32) = nI (12 * p + O - 1) from by rw [show ((nI (12 * p)) + (nI O) : Int32) = nI (12 * p + O) from by simp only [nl0, nl1, nl2, nl3, nl4, nl5, nl6, nl8, nl9, nl10, nl12, nl15, nl16, nl20, nl24, nl32, nl40, nl64, nl65, nl384, pk_mul, nI_add]]; exact nI_sub9 (a := 12 * p + O) (b := 1) (by omega)]
    show WG _ _ _ _ _ _ _ (36, [(2, vI (nI (12 * p + O - 1))), (0, vR (some m)), (1, vI (nI p))], [vR (some m)], sI σ 500000 m 0 0, 0, 0)
    refine w_get (k := 50) (vR (σ.2.1 502775 m 0)) rfl rfl rfl hM.1 rfl rfl ?_
    refine w_run 1 (S' := (40, [(2, vI (nI (12 * p + O - 1))), (0, vR (some m)), (1, vI (nI p))], [vI (nI (12 * p + O - 1)), vR (σ.2.1 502775 m 0)], sI σ 500000 m 0 0, 0, 0)) rfl ?_
    refine w_iald (k := 75) rfl ((hM.2 24 (by decide)).1) ((hM.2 24 (by decide)).2) rfl (show vp_in (nI (12 * p + O - 1)) 48 from vp_in_nI (n := 12 * p + O - 1) (by omega) (by decide)) ?_
    show WG _ _ _ _ _ _ _ (41, [(2, vI (nI (12 * p + O - 1))), (0, vR (some m)), (1, vI (nI p))], [vI ((sI σ 500000 m 0 0).1 750000 (A 24) (nI (12 * p + O - 1)).toNatClampNeg)], sI σ 500000 m 0 0, 0, 0)
    rw [show (nI (12 * p + O - 1) : Int32).toNatClampNeg = 12 * p + O - 1 from nI_clamp (n := 12 * p + O - 1) (by omega)]
    show WG _ _ _ _ _ _ _ (41, [(2, vI (nI (12 * p + O - 1))), (0, vR (some m)), (1, vI (nI p))], [vI (σ.1 750000 (A 24) (12 * p + O - 1))], sI σ 500000 m 0 0, 0, 0)
    refine Eq.mp (congrArg (fun x9 => WG _ _ _ _ _ _ _ (41, [(2, vI (nI (12 * p + O - 1))), (0, vR (some m)), (1, vI (nI p))], [vI x9], sI σ 500000 m 0 0, 0, 0)) (hcq.symm : nI q = σ.1 750000 (A 24) (12 * p + O - 1))) ?_
    show WG _ _ _ _ _ _ _ (41, [(2, vI (nI (12 * p + O - 1))), (0, vR (some m)), (1, vI (nI p))], [vI (nI q)], sI σ 500000 m 0 0, 0, 0)
    refine w_run 2 (S' := (43, [(3, vI (nI q)), (2, vI (nI (12 * p + O - 1))), (0, vR (some m)), (1, vI (nI p))], [vR (some m)], sI σ 500000 m 0 0, 0, 0)) rfl ?_
    refine w_get (k := 50) (vR (σ.2.1 500151 m 0)) rfl rfl rfl hM.1 rfl rfl ?_
    refine w_run 1 (S' := (47, [(3, vI (nI q)), (2, vI (nI (12 * p + O - 1))), (0, vR (some m)), (1, vI (nI p))], [vI (nI q), vR (σ.2.1 500151 m 0)], sI σ 500000 m 0 0, 0, 0)) rfl ?_
    refine w_zald (k := 51) rfl ((hM.2 0 (by decide)).1) ((hM.2 0 (by decide)).2) rfl (show vp_in (nI q) 4 from vp_in_nI (n := q) (by omega) (by decide)) ?_
    show WG _ _ _ _ _ _ _ (48, [(3, vI (nI q)), (2, vI (nI (12 * p + O - 1))), (0, vR (some m)), (1, vI (nI p))], [vI ((sI σ 500000 m 0 0).1 510000 (A 0) (nI q).toNatClampNeg)], sI σ 500000 m 0 0, 0, 0)
    rw [show (nI q : Int32).toNatClampNeg = q from nI_clamp (n := q) (by omega)]
    show WG _ _ _ _ _ _ _ (48, [(3, vI (nI q)), (2, vI (nI (12 * p + O - 1))), (0, vR (some m)), (1, vI (nI p))], [vI (σ.1 510000 (A 0) q)], sI σ 500000 m 0 0, 0, 0)
    refine w_if_eq rfl (fun c3 => ?_) (fun c3 => ?_)
    · refine w_run 1 (S' := (67, [(3, vI (nI q)), (2, vI (nI (12 * p + O - 1))), (0, vR (some m)), (1, vI (nI p))], [vR (some m)], sI σ 500000 m 0 0, 0, 0)) rfl ?_
      refine w_get (k := 50) (vR (σ.2.1 502674 m 0)) rfl rfl rfl hM.1 rfl rfl ?_
      refine w_run 2 (S' := (72, [(3, vI (nI q)), (2, vI (nI (12 * p + O - 1))), (0, vR (some m)), (1, vI (nI p))], [vI (nI p), vR (σ.2.1 502674 m 0), vI (nI p), vR (σ.2.1 502674 m 0)], sI σ 500000 m 0 0, 0, 0)) rfl ?_
      refine w_iald (k := 74) rfl ((hM.2 23 (by decide)).1) ((hM.2 23 (by decide)).2) rfl (show vp_in (nI p) 4 from vp_in_nI (n := p) (by omega) (by decide)) ?_
      show WG _ _ _ _ _ _ _ (73, [(3, vI (nI q)), (2, vI (nI (12 * p + O - 1))), (0, vR (some m)), (1, vI (nI p))], [vI ((sI σ 500000 m 0 0).1 740000 (A 23) (nI p).toNatClampNeg), vI (nI p), vR (σ.2.1 502674 m 0)], sI σ 500000 m 0 0, 0, 0)
      rw [show (nI p : Int32).toNatClampNeg = p from nI_clamp (n := p) (by omega)]
      show WG _ _ _ _ _ _ _ (73, [(3, vI (nI q)), (2, vI (nI (12 * p + O - 1))), (0, vR (some m)), (1, vI (nI p))], [vI (σ.1 740000 (A 23) p), vI (nI p), vR (σ.2.1 502674 m 0)], sI σ 500000 m 0 0, 0, 0)
      refine Eq.mp (congrArg (fun x9 => WG _ _ _ _ _ _ _ (73, [(3, vI (nI q)), (2, vI (nI (12 * p + O - 1))), (0, vR (some m)), (1, vI (nI p))], [vI x9, vI (nI p), vR (σ.2.1 502674 m 0)], sI σ 500000 m 0 0, 0, 0)) (hO.symm : nI O = σ.1 740000 (A 23) p)) ?_
      show WG _ _ _ _ _ _ _ (73, [(3, vI (nI q)), (2, vI (nI (12 * p + O - 1))), (0, vR (some m)), (1, vI (nI p))], [vI (nI O), vI (nI p), vR (σ.2.1 502674 m 0)], sI σ 500000 m 0 0, 0, 0)
      refine w_run 2 (S' := (75, [(3, vI (nI q)), (2, vI (nI (12 * p + O - 1))), (0, vR (some m)), (1, vI (nI p))], [vI ((nI O) - 1), vI (nI p), vR (σ.2.1 502674 m 0)], sI σ 500000 m 0 0, 0, 0)) rfl ?_
      refine w_iast (k := 74) rfl ((hM.2 23 (by decide)).1) ((hM.2 23 (by decide)).2) rfl (show vp_in (nI p) 4 from vp_in_nI (n := p) (by omega) (by decide)) ?_
      show WG _ _ _ _ _ _ _ (76, [(3, vI (nI q)), (2, vI (nI (12 * p + O - 1))), (0, vR (some m)), (1, vI (nI p))], [], sI (sI σ 500000 m 0 0) 740000 (A 23) ((nI p).toNatClampNeg) ((nI O) - 1), 0, 0)
      rw [show (nI p : Int32).toNatClampNeg = p from nI_clamp (n := p) (by omega)]
      refine w_run 1 (S' := (78, [(3, vI (nI q)), (2, vI (nI (12 * p + O - 1))), (0, vR (some m)), (1, vI (nI p))], [vI (-2)], sI (sI σ 500000 m 0 0) 740000 (A 23) p ((nI O) - 1), 0, 0)) rfl ?_
      exact w_iret rfl (Or.inl rfl) (by omega) (by omega) (⟨by rw [mrpF, if_neg nc2, if_pos c3], by rw [mrpF, if_neg nc2, if_pos c3]⟩)
    · refine w_run 1 (S' := (52, [(3, vI (nI q)), (2, vI (nI (12 * p + O - 1))), (0, vR (some m)), (1, vI (nI p))], [vR (some m)], sI σ 500000 m 0 0, 0, 0)) rfl ?_
      refine w_get (k := 50) (vR (σ.2.1 500252 m 0)) rfl rfl rfl hM.1 rfl rfl ?_
      refine w_run 1 (S' := (56, [(3, vI (nI q)), (2, vI (nI (12 * p + O - 1))), (0, vR (some m)), (1, vI (nI p))], [vI (nI q), vR (σ.2.1 500252 m 0)], sI σ 500000 m 0 0, 0, 0)) rfl ?_
      refine w_iald (k := 52) rfl ((hM.2 1 (by decide)).1) ((hM.2 1 (by decide)).2) rfl (show vp_in (nI q) 4 from vp_in_nI (n := q) (by omega) (by decide)) ?_
      show WG _ _ _ _ _ _ _ (57, [(3, vI (nI q)), (2, vI (nI (12 * p + O - 1))), (0, vR (some m)), (1, vI (nI p))], [vI ((sI σ 500000 m 0 0).1 520000 (A 1) (nI q).toNatClampNeg)], sI σ 500000 m 0 0, 0, 0)
      rw [show (nI q : Int32).toNatClampNeg = q from nI_clamp (n := q) (by omega)]
      show WG _ _ _ _ _ _ _ (57, [(3, vI (nI q)), (2, vI (nI (12 * p + O - 1))), (0, vR (some m)), (1, vI (nI p))], [vI (σ.1 520000 (A 1) q)], sI σ 500000 m 0 0, 0, 0)
      refine w_run 1 (S' := (58, [(3, vI (nI q)), (2, vI (nI (12 * p + O - 1))), (0, vR (some m)), (1, vI (nI p))], [vR (some m), vI (σ.1 520000 (A 1) q)], sI σ 500000 m 0 0, 0, 0)) rfl ?_
      refine w_get (k := 50) (vR (σ.2.1 502876 m 0)) rfl rfl rfl hM.1 rfl rfl ?_
      refine w_run 1 (S' := (62, [(3, vI (nI q)), (2, vI (nI (12 * p + O - 1))), (0, vR (some m)), (1, vI (nI p))], [vI (nI (12 * p + O - 1)), vR (σ.2.1 502876 m 0), vI (σ.1 520000 (A 1) q)], sI σ 500000 m 0 0, 0, 0)) rfl ?_
      refine w_iald (k := 76) rfl ((hM.2 25 (by decide)).1) ((hM.2 25 (by decide)).2) rfl (show vp_in (nI (12 * p + O - 1)) 48 from vp_in_nI (n := 12 * p + O - 1) (by omega) (by decide)) ?_
      show WG _ _ _ _ _ _ _ (63, [(3, vI (nI q)), (2, vI (nI (12 * p + O - 1))), (0, vR (some m)), (1, vI (nI p))], [vI ((sI σ 500000 m 0 0).1 760000 (A 25) (nI (12 * p + O - 1)).toNatClampNeg), vI (σ.1 520000 (A 1) q)], sI σ 500000 m 0 0, 0, 0)
      rw [show (nI (12 * p + O - 1) : Int32).toNatClampNeg = 12 * p + O - 1 from nI_clamp (n := 12 * p + O - 1) (by omega)]
      show WG _ _ _ _ _ _ _ (63, [(3, vI (nI q)), (2, vI (nI (12 * p + O - 1))), (0, vR (some m)), (1, vI (nI p))], [vI (σ.1 760000 (A 25) (12 * p + O - 1)), vI (σ.1 520000 (A 1) q)], sI σ 500000 m 0 0, 0, 0)
      refine w_ic_eq rfl (fun c4 => ?_) (fun c4 => ?_)
      · refine w_run 2 (S' := (81, [(3, vI (nI q)), (2, vI (nI (12 * p + O - 1))), (0, vR (some m)), (1, vI (nI p))], [vI (nI p), vR (some m)], sI σ 500000 m 0 0, 0, 0)) rfl ?_
        refine w_callV (st := []) [vI (nI p)] rfl ml_10_184 rfl rfl hM.1 rfl rfl rfl (by simp only [RM]; omega) (by simp only [RM]; show 8 + (4 + 11) + _ ≤ _; omega) rfl (by simp only [RM]; omega) (by simp only [RM]; omega) (c_mo_isBad l E (d - 1) (sI σ 500000 m 0 0) m A p n 0 hM (by omega) hp hn hit) (fun _ _ h => h.elim) ?_
        intro r9 s9 q9
        rw [q9.1, q9.2]
        clear q9 r9 s9
        show WG _ _ _ _ _ _ _ (84, [(3, vI (nI q)), (2, vI (nI (12 * p + O - 1))), (0, vR (some m)), (1, vI (nI p))], [vI (itF (badF σ m A p) n 0 0)], sI σ 500000 m 0 0, 0, 0)
        refine w_if_eq rfl (fun c5 => ?_) (fun c5 => ?_)
        · refine w_run 5 (S' := (95, [(3, vI (nI q)), (2, vI (nI (12 * p + O - 1))), (0, vR (some m)), (1, vI (nI p))], [vI 0, vI 0, vI (nI q), vI (nI p), vR (some m)], sI σ 500000 m 0 0, 0, 0)) rfl ?_
          refine w_callV (st := []) [vI (nI p), vI (nI q), vI 0, vI 0] rfl ml_10_190 rfl rfl hM.1 rfl rfl rfl (by simp only [RM]; omega) (by simp only [RM]; show 8 + (6 + 11) + _ ≤ _; omega) rfl (by simp only [RM]; omega) (by simp only [RM]; omega) (c_mo_isFull l E (d - 1) (sI σ 500000 m 0 0) m A p q n z 0 0 t (by omega) hM hp hq hn hit hz hsz (hg nc2 c3 c4)) (fun _ _ h => h.elim) ?_
          intro r9 s9 q9
          rw [q9.1, q9.2]
          clear q9 r9 s9
          show WG _ _ _ _ _ _ _ (98, [(3, vI (nI q)), (2, vI (nI (12 * p + O - 1))), (0, vR (some m)), (1, vI (nI p))], [vI (flF σ m A p q n z 0 0 t)], sI σ 500000 m 0 0, 0, 0)
          refine w_if_eq rfl (fun c6 => ?_) (fun c6 => ?_)
          · obtain ⟨⟨hb1, hb2, hb0, hb3, hW6⟩, hIV, hI0⟩ := hr nc2 c3 c4 c6
            have hM1 : MO (mvS (sI (sI σ 500000 m 0 0) 740000 (A 23) p (nI O - 1)) m A p q b n z 0 (-1) t) m A := MO.of2 hM mvS_O
            refine w_run 1 (S' := (105, [(3, vI (nI q)), (2, vI (nI (12 * p + O - 1))), (0, vR (some m)), (1, vI (nI p))], [vR (some m)], sI σ 500000 m 0 0, 0, 0)) rfl ?_
            refine w_get (k := 50) (vR (σ.2.1 502674 m 0)) rfl rfl rfl hM.1 rfl rfl ?_
            refine w_run 2 (S' := (110, [(3, vI (nI q)), (2, vI (nI (12 * p + O - 1))), (0, vR (some m)), (1, vI (nI p))], [vI (nI p), vR (σ.2.1 502674 m 0), vI (nI p), vR (σ.2.1 502674 m 0)], sI σ 500000 m 0 0, 0, 0)) rfl ?_
            refine w_iald (k := 74) rfl ((hM.2 23 (by decide)).1) ((hM.2 23 (by decide)).2) rfl (show vp_in (nI p) 4 from vp_in_nI (n := p) (by omega) (by decide)) ?_
            show WG _ _ _ _ _ _ _ (111, [(3, vI (nI q)), (2, vI (nI (12 * p + O - 1))), (0, vR (some m)), (1, vI (nI p))], [vI ((sI σ 500000 m 0 0).1 740000 (A 23) (nI p).toNatClampNeg), vI (nI p), vR (σ.2.1 502674 m 0)], sI σ 500000 m 0 0, 0, 0)
            rw [show (nI p : Int32).toNatClampNeg = p from nI_clamp (n := p) (by omega)]
            show WG _ _ _ _ _ _ _ (111, [(3, vI (nI q)), (2, vI (nI (12 * p + O - 1))), (0, vR (some m)), (1, vI (nI p))], [vI (σ.1 740000 (A 23) p), vI (nI p), vR (σ.2.1 502674 m 0)], sI σ 500000 m 0 0, 0, 0)
            refine Eq.mp (congrArg (fun x9 => WG _ _ _ _ _ _ _ (111, [(3, vI (nI q)), (2, vI (nI (12 * p + O - 1))), (0, vR (some m)), (1, vI (nI p))], [vI x9, vI (nI p), vR (σ.2.1 502674 m 0)], sI σ 500000 m 0 0, 0, 0)) (hO.symm : nI O = σ.1 740000 (A 23) p)) ?_
            show WG _ _ _ _ _ _ _ (111, [(3, vI (nI q)), (2, vI (nI (12 * p + O - 1))), (0, vR (some m)), (1, vI (nI p))], [vI (nI O), vI (nI p), vR (σ.2.1 502674 m 0)], sI σ 500000 m 0 0, 0, 0)
            refine w_run 2 (S' := (113, [(3, vI (nI q)), (2, vI (nI (12 * p + O - 1))), (0, vR (some m)), (1, vI (nI p))], [vI ((nI O) - 1), vI (nI p), vR (σ.2.1 502674 m 0)], sI σ 500000 m 0 0, 0, 0)) rfl ?_
            refine w_iast (k := 74) rfl ((hM.2 23 (by decide)).1) ((hM.2 23 (by decide)).2) rfl (show vp_in (nI p) 4 from vp_in_nI (n := p) (by omega) (by decide)) ?_
            show WG _ _ _ _ _ _ _ (114, [(3, vI (nI q)), (2, vI (nI (12 * p + O - 1))), (0, vR (some m)), (1, vI (nI p))], [], sI (sI σ 500000 m 0 0) 740000 (A 23) ((nI p).toNatClampNeg) ((nI O) - 1), 0, 0)
            rw [show (nI p : Int32).toNatClampNeg = p from nI_clamp (n := p) (by omega)]
            refine w_run 8 (S' := (122, [(3, vI (nI q)), (2, vI (nI (12 * p + O - 1))), (0, vR (some m)), (1, vI (nI p))], [vI (-1), vI 0, vI (nI q), vI (nI p), vR (some m), vI 3, vI (nI q), vR (some m)], sI (sI σ 500000 m 0 0) 740000 (A 23) p ((nI O) - 1), 0, 0)) rfl ?_
            refine w_callV (st := [vI 3, vI (nI q), vR (some m)]) [vI (nI p), vI (nI q), vI 0, vI (-1)] rfl ml_10_194 rfl rfl hM.1 rfl rfl rfl (by simp only [RM]; omega) (by simp only [RM]; show 8 + (11 + 11) + _ ≤ _; omega) rfl (by simp only [RM]; omega) (by simp only [RM]; omega) (c_mo_moves l E (d - 1) (sI (sI σ 500000 m 0 0) 740000 (A 23) p (nI O - 1)) m A p q b n z 0 (-1) t IV (by omega) hM hp hq hn hit hz hsz (Or.inl rfl) (hg nc2 c3 c4) hb1 hb2 hb0 hb3 hIV hI0) (fun _ _ h => h.elim) ?_
            intro r9 s9 q9
            rw [q9.1, q9.2]
            clear q9 r9 s9
            show WG _ _ _ _ _ _ _ (125, [(3, vI (nI q)), (2, vI (nI (12 * p + O - 1))), (0, vR (some m)), (1, vI (nI p))], [vI (nI b), vI 3, vI (nI q), vR (some m)], mvS (sI (sI σ 500000 m 0 0) 740000 (A 23) p (nI O - 1)) m A p q b n z 0 (-1) t, 0, 0)
            refine w_run 3 (S' := (128, [(3, vI (nI q)), (2, vI (nI (12 * p + O - 1))), (0, vR (some m)), (1, vI (nI p))], [vI 0, vI (nI p), vI (-1), vI (nI b), vI 3, vI (nI q), vR (some m)], mvS (sI (sI σ 500000 m 0 0) 740000 (A 23) p (nI O - 1)) m A p q b n z 0 (-1) t, 0, 0)) rfl ?_
            refine w_callV (st := []) [vI (nI q), vI 3, vI (nI b), vI (-1), vI (nI p), vI 0] rfl ml_10_119 rfl rfl hM1.1 rfl rfl rfl (by simp only [RM]; omega) (by simp only [RM]; show 8 + (8 + 11) + _ ≤ _; omega) rfl (by simp only [RM]; omega) (by simp only [RM]; omega) (c_mo_comes l E (d - 1) (mvS (sI (sI σ 500000 m 0 0) 740000 (A 23) p (nI O - 1)) m A p q b n z 0 (-1) t) m A q W 3 (nI b) (-1) (nI p) 0 hM1 hq ((mvS_w (by decide) _ _).trans hW) hW6 (fun _ => by rw [nI_clamp (by omega)]; exact hp)) (fun _ _ h => h.elim) ?_
            intro r9 s9 q9
            rw [q9.1, q9.2]
            clear q9 r9 s9
            show WG _ _ _ _ _ _ _ (131, [(3, vI (nI q)), (2, vI (nI (12 * p + O - 1))), (0, vR (some m)), (1, vI (nI p))], [], cmS (mvS (sI (sI σ 500000 m 0 0) 740000 (A 23) p (nI O - 1)) m A p q b n z 0 (-1) t) A q W 3 (nI b) (-1) (nI p) 0, 0, 0)
            refine w_run 1 (S' := (132, [(3, vI (nI q)), (2, vI (nI (12 * p + O - 1))), (0, vR (some m)), (1, vI (nI p))], [vI 0], cmS (mvS (sI (sI σ 500000 m 0 0) 740000 (A 23) p (nI O - 1)) m A p q b n z 0 (-1) t) A q W 3 (nI b) (-1) (nI p) 0, 0, 0)) rfl ?_
            exact w_iret rfl (Or.inl rfl) (by omega) (by omega) (⟨by rw [mrpF, if_neg nc2, if_neg c3, if_neg (not_not_intro c4), if_neg (not_not_intro c5), if_neg (not_not_intro c6), mrpS], by rw [mrpF, if_neg nc2, if_neg c3, if_neg (not_not_intro c4), if_neg (not_not_intro c5), if_neg (not_not_intro c6), mrpS]⟩)
          · refine w_run 1 (S' := (103, [(3, vI (nI q)), (2, vI (nI (12 * p + O - 1))), (0, vR (some m)), (1, vI (nI p))], [vI (-4)], sI σ 500000 m 0 0, 0, 0)) rfl ?_
            exact w_iret rfl (Or.inl rfl) (by omega) (by omega) (⟨by rw [mrpF, if_neg nc2, if_neg c3, if_neg (not_not_intro c4), if_neg (not_not_intro c5), if_pos c6], by rw [mrpF, if_neg nc2, if_neg c3, if_neg (not_not_intro c4), if_neg (not_not_intro c5), if_pos c6]⟩)
        · refine w_run 1 (S' := (89, [(3, vI (nI q)), (2, vI (nI (12 * p + O - 1))), (0, vR (some m)), (1, vI (nI p))], [vI (-3)], sI σ 500000 m 0 0, 0, 0)) rfl ?_
          exact w_iret rfl (Or.inl rfl) (by omega) (by omega) (⟨by rw [mrpF, if_neg nc2, if_neg c3, if_neg (not_not_intro c4), if_pos c5], by rw [mrpF, if_neg nc2, if_neg c3, if_neg (not_not_intro c4), if_pos c5]⟩)
      · refine w_run 1 (S' := (67, [(3, vI (nI q)), (2, vI (nI (12 * p + O - 1))), (0, vR (some m)), (1, vI (nI p))], [vR (some m)], sI σ 500000 m 0 0, 0, 0)) rfl ?_
        refine w_get (k := 50) (vR (σ.2.1 502674 m 0)) rfl rfl rfl hM.1 rfl rfl ?_
        refine w_run 2 (S' := (72, [(3, vI (nI q)), (2, vI (nI (12 * p + O - 1))), (0, vR (some m)), (1, vI (nI p))], [vI (nI p), vR (σ.2.1 502674 m 0), vI (nI p), vR (σ.2.1 502674 m 0)], sI σ 500000 m 0 0, 0, 0)) rfl ?_
        refine w_iald (k := 74) rfl ((hM.2 23 (by decide)).1) ((hM.2 23 (by decide)).2) rfl (show vp_in (nI p) 4 from vp_in_nI (n := p) (by omega) (by decide)) ?_
        show WG _ _ _ _ _ _ _ (73, [(3, vI (nI q)), (2, vI (nI (12 * p + O - 1))), (0, vR (some m)), (1, vI (nI p))], [vI ((sI σ 500000 m 0 0).1 740000 (A 23) (nI p).toNatClampNeg), vI (nI p), vR (σ.2.1 502674 m 0)], sI σ 500000 m 0 0, 0, 0)
        rw [show (nI p : Int32).toNatClampNeg = p from nI_clamp (n := p) (by omega)]
        show WG _ _ _ _ _ _ _ (73, [(3, vI (nI q)), (2, vI (nI (12 * p + O - 1))), (0, vR (some m)), (1, vI (nI p))], [vI (σ.1 740000 (A 23) p), vI (nI p), vR (σ.2.1 502674 m 0)], sI σ 500000 m 0 0, 0, 0)
        refine Eq.mp (congrArg (fun x9 => WG _ _ _ _ _ _ _ (73, [(3, vI (nI q)), (2, vI (nI (12 * p + O - 1))), (0, vR (some m)), (1, vI (nI p))], [vI x9, vI (nI p), vR (σ.2.1 502674 m 0)], sI σ 500000 m 0 0, 0, 0)) (hO.symm : nI O = σ.1 740000 (A 23) p)) ?_
        show WG _ _ _ _ _ _ _ (73, [(3, vI (nI q)), (2, vI (nI (12 * p + O - 1))), (0, vR (some m)), (1, vI (nI p))], [vI (nI O), vI (nI p), vR (σ.2.1 502674 m 0)], sI σ 500000 m 0 0, 0, 0)
        refine w_run 2 (S' := (75, [(3, vI (nI q)), (2, vI (nI (12 * p + O - 1))), (0, vR (some m)), (1, vI (nI p))], [vI ((nI O) - 1), vI (nI p), vR (σ.2.1 502674 m 0)], sI σ 500000 m 0 0, 0, 0)) rfl ?_
        refine w_iast (k := 74) rfl ((hM.2 23 (by decide)).1) ((hM.2 23 (by decide)).2) rfl (show vp_in (nI p) 4 from vp_in_nI (n := p) (by omega) (by decide)) ?_
        show WG _ _ _ _ _ _ _ (76, [(3, vI (nI q)), (2, vI (nI (12 * p + O - 1))), (0, vR (some m)), (1, vI (nI p))], [], sI (sI σ 500000 m 0 0) 740000 (A 23) ((nI p).toNatClampNeg) ((nI O) - 1), 0, 0)
        rw [show (nI p : Int32).toNatClampNeg = p from nI_clamp (n := p) (by omega)]
        refine w_run 1 (S' := (78, [(3, vI (nI q)), (2, vI (nI (12 * p + O - 1))), (0, vR (some m)), (1, vI (nI p))], [vI (-2)], sI (sI σ 500000 m 0 0) 740000 (A 23) p ((nI O) - 1), 0, 0)) rfl ?_
        exact w_iret rfl (Or.inl rfl) (by omega) (by omega) (⟨by rw [mrpF, if_neg nc2, if_neg c3, if_pos c4], by rw [mrpF, if_neg nc2, if_neg c3, if_pos c4]⟩)
  · have nc2 := (nI_eq (a := O) (b := 0) (by omega) (by omega)).mp c2
    refine w_run 1 (S' := (20, [(0, vR (some m)), (1, vI (nI p))], [vI (-1)], sI σ 500000 m 0 0, 0, 0)) rfl ?_
    exact w_iret rfl (Or.inl rfl) (by omega) (by omega) (⟨by rw [mrpF, if_pos nc2], by rw [mrpF, if_pos nc2]⟩)

