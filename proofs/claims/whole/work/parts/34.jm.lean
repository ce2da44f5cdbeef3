/-! the JDK's methods -/
theorem nI_max {a b : Nat} (ha : a < 2 ^ 31) (hb : b < 2 ^ 31) : (if nI a < nI b then nI b else nI a) = nI (max a b) := by
  by_cases h : a < b
  · rw [if_pos (nI_lt h hb), Nat.max_eq_right (Nat.le_of_lt h)]
  · rw [if_neg (nI_nlt (Nat.not_lt.mp h) ha), Nat.max_eq_left (Nat.not_lt.mp h)]
theorem nI_sub9 {a b : Nat} (h : b ≤ a) : nI a - nI b = nI (a - b) := by
  obtain ⟨c, rfl⟩ := Nat.exists_eq_add_of_le h
  have k := pk_sub (a := b + c) (b := b) (by omega)
  exact k
theorem ishr1 {n : Nat} (h : n < 2 ^ 31) : nI n >>> ((1 : Int32) &&& 31) = nI (n / 2) := by
  have k := pk_shrN (n := n) h ((1 : Int32) &&& 31) 1 (by decide)
  rw [Nat.pow_one] at k
  exact k
theorem lk_min : Cond.methodLink (RCn 17) 304 Lib.Math.min.name ∈ GW := (gwl (List.mem_of_getElem? (i := 458) (by decide +kernel)) rfl)
section MN
variable {l : Launch} {E : FE} {R : Room} {mid : Nat} {args : Array Value} {XX : State → Prop} {QF : State → List Frame → State → Prop}
variable {pc len tgt : Nat} {ls : List (Nat × MV)} {st : List MV} {σ : Sg} {cs sl : Nat}
theorem w_min {idx : Nat} {x y : Int32} (hq : lkp pc (insL mid) = some (.invokestatic idx, len, tgt)) (hlk : Cond.methodLink (RCn (cnoM mid)) idx Lib.Math.min.name ∈ GW) (hw : wt8 st = true) (hfr : 1 ≤ R.frames) (hlo : 21 ≤ R.locals) (hc : cs ≤ R.cells) (hs : sl ≤ R.slots) (kk : WG l E R mid args XX QF (pc + 3, ls, vI (if y < x then y else x) :: st, σ, cs, sl)) : WG l E R mid args XX QF (pc, ls, vI y :: vI x :: st, σ, cs, sl) := by
  intro ok p e s m below meth c H locs arr hX F hR hS hl
  obtain ⟨hx, hb, hml, hret, hown, hts, hlocks, hnm, hK, hz, hZ, htab⟩ := id F
  obtain ⟨hd, hlen, hoff⟩ := ok.at hq
  cases hlen rfl
  have hown' : s.vm.findClass (RCn (cnoM mid)) = some m.cls := by rw [ok.1] at hown; exact hown
  have hw8 := wt8_V hw
  exact va_mmin hx hb (by rw [hml]; exact hl.1.symm) hown' (hts _ hlk) (hts _ (gwl (List.mem_of_getElem? (i := 459) (by decide +kernel)) rfl)) (hts _ (gwl (List.mem_of_getElem? (i := 54) (by decide +kernel)) rfl)) (hts _ (gwl (List.mem_of_getElem? (i := 460) (by decide +kernel)) rfl)) hfr (by omega) hc hs hd (kk ok p e s m below meth c H locs arr hX F hR hS hl)
end MN
set_option maxHeartbeats 4000000 in
theorem c_as_newLength (l : Launch) (E : FE) (d : Nat) (σ : Sg) (L g f : Nat) (hd : 1 ≤ d) (hL : L ≤ 1000) (hg : 1 ≤ g) (hg2 : g ≤ 1000) (hf : f ≤ 1000) : CT l E d 217 [vI (nI L), vI (nI g), vI (nI f)] σ 0 0 (fun r σ' => r = some (vI (nI (L + max g f))) ∧ σ' = σ) (fun _ _ => False) := by
  refine CTo ok_as_newLength (by decide +kernel) rfl rfl rfl ?_
  refine w_run 3 (S' := (3, [(0, vI (nI L)), (1, vI (nI g)), (2, vI (nI f))], [vI (nI f), vI (nI g), vI (nI L)], σ, 0, 0)) rfl ?_
  refine w_max rfl mx_16_194 rfl (by simp only [RM]; omega) (by simp only [RM]; omega) (by simp only [RM]; omega) (by simp only [RM]; omega) ?_
  rw [show (if (nI g : Int32) < nI f then nI f else nI g : Int32) = nI (max g f) from nI_max (a := g) (b := f) (by omega) (by omega)]
  show WG _ _ _ _ _ _ _ (6, [(0, vI (nI L)), (1, vI (nI g)), (2, vI (nI f))], [vI (nI (max g f)), vI (nI L)], σ, 0, 0)
  refine w_run 4 (S' := (10, [(3, vI ((nI L) + (nI (max g f)))), (0, vI (nI L)), (1, vI (nI g)), (2, vI (nI f))], [vI ((nI L) + (nI (max g f))), vI 0], σ, 0, 0)) rfl ?_
  rw [show ((nI L) + (nI (max g f)) : Int32) = nI (L + max g f) from by simp only [nl0, nl1, nl2, nl3, nl4, nl5, nl6, nl8, nl9, nl10, nl12, nl15, nl16, nl20, nl24, nl32, nl40, nl64, nl65, nl384, pk_mul, nI_add]]
  show WG _ _ _ _ _ _ _ (10, [(3, vI (nI (L + max g f))), (0, vI (nI L)), (1, vI (nI g)), (2, vI (nI f))], [vI (nI (L + max g f)), vI 0], σ, 0, 0)
  refine w_ic_ge rfl (fun c1 => (absurd ((nI_leI (a := L + max g f) (b := 0) (by omega) (by omega)).mp c1) (by omega))) (fun c1 => ?_)
  have nc1 := mt (nI_leI (a := L + max g f) (b := 0) (by omega) (by omega)).mpr c1
  refine w_run 1 (S' := (14, [(3, vI (nI (L + max g f))), (0, vI (nI L)), (1, vI (nI g)), (2, vI (nI f))], [vI (nI (L + max g f))], σ, 0, 0)) rfl ?_
  refine w_ldcI rfl lk_max ?_
  refine w_ic_gt rfl (fun c2 => (absurd ((nI_ltI (a := 2147483639) (b := L + max g f) (by omega) (by omega)).mp c2) (by omega))) (fun c2 => ?_)
  have nc2 := mt (nI_ltI (a := 2147483639) (b := L + max g f) (by omega) (by omega)).mpr c2
  refine w_run 1 (S' := (20, [(3, vI (nI (L + max g f))), (0, vI (nI L)), (1, vI (nI g)), (2, vI (nI f))], [vI (nI (L + max g f))], σ, 0, 0)) rfl ?_
  exact w_iret rfl (Or.inl rfl) (by omega) (by omega) (⟨rfl, rfl⟩)

set_option maxHeartbeats 4000000 in
theorem c_pc_checkIndex (l : Launch) (E : FE) (d : Nat) (σ : Sg) (i n : Nat) (r0 : Option Nat) (hi : i < n) (hn : n < 2 ^ 31) : CT l E d 212 [vI (nI i), vI (nI n), vR r0] σ 0 0 (fun r σ' => r = some (vI (nI i)) ∧ σ' = σ) (fun _ _ => False) := by
  refine CTo ok_pc_checkIndex (by decide +kernel) rfl rfl rfl ?_
  refine w_run 1 (S' := (1, [(0, vI (nI i)), (1, vI (nI n)), (2, vR r0)], [vI (nI i)], σ, 0, 0)) rfl ?_
  refine w_if_lt rfl (fun c1 => (absurd ((nI_ltI (a := i) (b := 0) (by omega) (by omega)).mp c1) (by omega))) (fun c1 => ?_)
  have nc1 := mt (nI_ltI (a := i) (b := 0) (by omega) (by omega)).mpr c1
  refine w_run 2 (S' := (6, [(0, vI (nI i)), (1, vI (nI n)), (2, vR r0)], [vI (nI n), vI (nI i)], σ, 0, 0)) rfl ?_
  refine w_ic_lt rfl (fun c2 => ?_) (fun c2 => (absurd ((nI_ltI (a := i) (b := n) (by omega) (by omega)).mpr (by omega)) c2))
  have nc2 := (nI_ltI (a := i) (b := n) (by omega) (by omega)).mp c2
  refine w_run 1 (S' := (17, [(0, vI (nI i)), (1, vI (nI n)), (2, vR r0)], [vI (nI i)], σ, 0, 0)) rfl ?_
  exact w_iret rfl (Or.inl rfl) (by omega) (by omega) (⟨rfl, rfl⟩)

set_option maxHeartbeats 4000000 in
theorem c_ob_checkIndex (l : Launch) (E : FE) (d : Nat) (σ : Sg) (i n dd : Nat) (hd : dd + 1 ≤ d) (hi : i < n) (hn : n < 2 ^ 31) : CT l E d 211 [vI (nI i), vI (nI n)] σ 0 0 (fun r σ' => r = some (vI (nI i)) ∧ σ' = σ) (fun _ _ => False) := by
  refine CTo ok_ob_checkIndex (by decide +kernel) rfl rfl rfl ?_
  refine w_run 3 (S' := (3, [(0, vI (nI i)), (1, vI (nI n))], [vR none, vI (nI n), vI (nI i)], σ, 0, 0)) rfl ?_
  refine w_callT (st := []) [vI (nI i), vI (nI n), vR none] rfl ml_14_105 rfl (by simp only [RM]; omega) (by simp only [RM]; show 8 + (3 + 11) + _ ≤ _; omega) rfl (by simp only [RM]; omega) (by simp only [RM]; omega) (c_pc_checkIndex l E dd σ i n none hi hn) (fun _ _ h => h.elim) ?_
  intro r9 s9 q9
  rw [q9.1, q9.2]
  clear q9 r9 s9
  show WG _ _ _ _ _ _ _ (6, [(0, vI (nI i)), (1, vI (nI n))], [vI (nI i)], σ, 0, 0)
  exact w_iret rfl (Or.inl rfl) (by omega) (by omega) (⟨rfl, rfl⟩)

theorem cl0 : (0 : Int32).toNatClampNeg = 0 := by decide
theorem sA_O {σ : Sg} {q k n c a : Nat} (h : a ≠ q) : (sA σ q k n).2.1 c a = σ.2.1 c a := by funext y; simp [sA, sI, sN, h]
theorem sA_Oq {σ : Sg} {q k n c : Nat} : (sA σ q k n).2.1 c q = fun _ => none := by funext y; simp [sA, sI, sN]
theorem sA_len {σ : Sg} {q k n a : Nat} (k' : Nat) (h : a ≠ q) : lnK k' (sA σ q k n) a = lnK k' σ a := by simp [lnK, sA, sI, sN, h]
theorem sA_lenq {σ : Sg} {q k n : Nat} (h : n < 2 ^ 31) : lnK k (sA σ q k n) q = n := by simp [lnK, sA, sI, nI_clamp h]
set_option maxHeartbeats 4000000 in
theorem c_ay_copyOf3_20 (l : Launch) (E : FE) (d : Nat) (σ : Sg) (ar N : Nat) (hd : 1 ≤ d) (hk : σ.2.2.2 ar = 41) (hL : lnK 41 σ ar ≤ N) (hN : N ≤ 100000) : CT l E d 219 [vR (some ar), vI (nI N), vR (some (fm E))] σ 1 N (fun r σ' => ∃ q, σ.2.2.2 q = 0 ∧ q ≠ fe E ∧ r = some (vR (some q)) ∧ σ' = sC (sA σ q 41 N) 410005 q (va_cpy (σ.2.1 410005 ar) (fun _ => none) 0 0 (lnK 41 σ ar))) (fun _ _ => False) := by
  refine CTo ok_ay_copyOf3 (by decide +kernel) rfl rfl rfl ?_
  refine w_run 1 (S' := (1, [(0, vR (some ar)), (1, vI (nI N)), (2, vR (some (fm E)))], [vR (some (fm E))], σ, 0, 0)) rfl ?_
  refine w_ldcM rfl lk_mir ?_
  refine w_ac_ne rfl (fun c1 => (absurd rfl c1)) (fun c1 => ?_)
  refine w_run 1 (S' := (7, [(0, vR (some ar)), (1, vI (nI N)), (2, vR (some (fm E)))], [vI (nI N)], σ, 0, 0)) rfl ?_
  refine w_newqO (k := 41) (N := N) rfl lk_obj17 (show AK 41 5 by unfold AK; decide) rfl (by omega) (by simp only [RM]; omega) (by simp only [RM]; omega) (fun q hq hqe => ?_)
  have hn_ar : ar ≠ q := ne0 (hk) hq (by decide)
  have hk_ar : (sA σ q 41 N).2.2.2 ar = 41 := by simp only [sA, sI, sN]; rw [if_neg hn_ar]; exact hk
  have hkq : (sA σ q 41 N).2.2.2 q = 41 := by simp [sA, sI, sN]
  show WG _ _ _ _ _ _ _ (10, [(0, vR (some ar)), (1, vI (nI N)), (2, vR (some (fm E)))], [vR (some q)], sA σ q 41 N, 0 + 1, 0 + N)
  refine w_run 7 (S' := (30, [(3, vR (some q)), (0, vR (some ar)), (1, vI (nI N)), (2, vR (some (fm E)))], [vR (some ar), vI 0, vR (some q), vI 0, vR (some ar)], sA σ q 41 N, 0 + 1, 0 + N)) rfl ?_
  refine w_len (k := 41) rfl rfl hk_ar (show AK 41 5 by unfold AK; decide) ?_
  show WG _ _ _ _ _ _ _ (31, [(3, vR (some q)), (0, vR (some ar)), (1, vI (nI N)), (2, vR (some (fm E)))], [vI (nI (lnK 41 (sA σ q 41 N) ar)), vI 0, vR (some q), vI 0, vR (some ar)], sA σ q 41 N, 0 + 1, 0 + N)
  refine w_run 1 (S' := (32, [(3, vR (some q)), (0, vR (some ar)), (1, vI (nI N)), (2, vR (some (fm E)))], [vI (nI N), vI (nI (lnK 41 (sA σ q 41 N) ar)), vI 0, vR (some q), vI 0, vR (some ar)], sA σ q 41 N, 0 + 1, 0 + N)) rfl ?_
  refine w_min rfl lk_min rfl (by simp only [RM]; omega) (by simp only [RM]; omega) (by simp only [RM]; omega) (by simp only [RM]; omega) ?_
  rw [show (if nI N < nI (lnK 41 (sA σ q 41 N) ar) then nI N else nI (lnK 41 (sA σ q 41 N) ar) : Int32) = nI (lnK 41 σ ar) from (by rw [sA_len _ hn_ar, if_neg (nI_nlt hL (by omega))])]
  show WG _ _ _ _ _ _ _ (35, [(3, vR (some q)), (0, vR (some ar)), (1, vI (nI N)), (2, vR (some (fm E)))], [vI (nI (lnK 41 σ ar)), vI 0, vR (some q), vI 0, vR (some ar)], sA σ q 41 N, 0 + 1, 0 + N)
  refine w_copy (k := 41) rfl lk_cp17 rfl rfl hk_ar hkq (show AK 41 5 by unfold AK; decide) (by decide) (by decide) (nI_pos (by omega)) (by rw [cl0, nI_clamp (n := lnK 41 σ ar) (by omega), sA_len _ hn_ar]; omega) (by rw [cl0, nI_clamp (n := lnK 41 σ ar) (by omega), sA_lenq (by omega)]; omega) rfl (by simp only [RM]; omega) (by simp only [RM]; omega) ?_
  show WG _ _ _ _ _ _ _ (38, [(3, vR (some q)), (0, vR (some ar)), (1, vI (nI N)), (2, vR (some (fm E)))], [], sC (sA σ q 41 N) 410005 q (va_cpy ((sA σ q 41 N).2.1 410005 ar) ((sA σ q 41 N).2.1 410005 q) (0 : Int32).toNatClampNeg (0 : Int32).toNatClampNeg (nI (lnK 41 σ ar) : Int32).toNatClampNeg), 0 + 1, 0 + N)
  rw [sA_O hn_ar, sA_Oq, cl0, nI_clamp (n := lnK 41 σ ar) (by omega)]
  show WG _ _ _ _ _ _ _ (38, [(3, vR (some q)), (0, vR (some ar)), (1, vI (nI N)), (2, vR (some (fm E)))], [], sC (sA σ q 41 N) 410005 q (va_cpy (σ.2.1 410005 ar) (fun _ => none) 0 0 (lnK 41 σ ar)), 0 + 1, 0 + N)
  refine w_run 1 (S' := (39, [(3, vR (some q)), (0, vR (some ar)), (1, vI (nI N)), (2, vR (some (fm E)))], [vR (some q)], sC (sA σ q 41 N) 410005 q (va_cpy (σ.2.1 410005 ar) (fun _ => none) 0 0 (lnK 41 σ ar)), 0 + 1, 0 + N)) rfl ?_
  exact w_aret rfl rfl (Or.inr ⟨_, rfl⟩) (by omega) (by omega) (⟨q, hq, hqe, rfl, rfl⟩)

set_option maxHeartbeats 4000000 in
theorem c_ay_copyOf_20 (l : Launch) (E : FE) (d : Nat) (σ : Sg) (ar N dd : Nat) (hd : dd + 2 ≤ d) (hk : σ.2.2.2 ar = 41) (hL : lnK 41 σ ar ≤ N) (hN : N ≤ 100000) : CT l E d 218 [vR (some ar), vI (nI N)] σ 1 N (fun r σ' => ∃ q, σ.2.2.2 q = 0 ∧ q ≠ fe E ∧ r = some (vR (some q)) ∧ σ' = sC (sA σ q 41 N) 410005 q (va_cpy (σ.2.1 410005 ar) (fun _ => none) 0 0 (lnK 41 σ ar))) (fun _ _ => False) := by
  refine CTo ok_ay_copyOf (by decide +kernel) rfl rfl rfl ?_
  refine w_run 3 (S' := (3, [(0, vR (some ar)), (1, vI (nI N))], [vR (some ar), vI (nI N), vR (some ar)], σ, 0, 0)) rfl ?_
  refine w_getC (k := 41) rfl lk_gc rfl hk (show AK 41 5 by unfold AK; decide) rfl (by simp only [RM]; omega) (by simp only [RM]; omega) ?_
  refine w_callS (st := []) [vR (some ar), vI (nI N), vR (some (fm E))] rfl ml_17_300 rfl (by simp only [RM]; omega) (by simp only [RM]; show 8 + (4 + 11) + _ ≤ _; omega) rfl (by simp only [RM]; omega) (by simp only [RM]; omega) (c_ay_copyOf3_20 l E (dd + 1) σ ar N (by omega) hk hL hN) (fun _ _ h => h.elim) ?_
  intro r9 s9 q9
  obtain ⟨q, hq, hqe, e1, e2⟩ := q9
  rw [e1, e2]
  clear e1 e2 r9 s9
  show WG _ _ _ _ _ _ _ (9, [(0, vR (some ar)), (1, vI (nI N))], [vR (some q)], sC (sA σ q 41 N) 410005 q (va_cpy (σ.2.1 410005 ar) (fun _ => none) 0 0 (lnK 41 σ ar)), 0 + 1, 0 + N)
  exact w_aret rfl rfl (Or.inr ⟨_, rfl⟩) (by omega) (by omega) (⟨q, hq, hqe, rfl, rfl⟩)

set_option maxHeartbeats 4000000 in
theorem c_al_grow_20 (l : Launch) (E : FE) (d : Nat) (σ : Sg) (a ar dd : Nat) (hd : dd + 4 ≤ d) (hk : σ.2.2.2 a = 20) (hka : σ.2.2.2 ar = 41) (he : σ.2.1 200100 a 0 = some ar) (hL1 : 1 ≤ lnK 41 σ ar) (hL2 : lnK 41 σ ar ≤ 300) : CT l E d 216 [vR (some a), vI (nI (lnK 41 σ ar + 1))] σ 1 (lnK 41 σ ar + max (lnK 41 σ ar + 1 - (lnK 41 σ ar)) ((lnK 41 σ ar) / 2)) (fun r σ' => ∃ q, σ.2.2.2 q = 0 ∧ q ≠ fe E ∧ r = some (vR (some q)) ∧ σ' = sO (sC (sA σ q 41 (lnK 41 σ ar + max (lnK 41 σ ar + 1 - (lnK 41 σ ar)) ((lnK 41 σ ar) / 2))) 410005 q (va_cpy (σ.2.1 410005 ar) (fun _ => none) 0 0 (lnK 41 σ ar))) 200100 a 0 (some q)) (fun _ _ => False) := by
  refine CTo ok_al_grow (by decide +kernel) rfl rfl rfl ?_
  refine w_run 1 (S' := (1, [(0, vR (some a)), (1, vI (nI (lnK 41 σ ar + 1)))], [vR (some a)], σ, 0, 0)) rfl ?_
  refine w_get (k := 20) (vR (σ.2.1 200100 a 0)) rfl rfl rfl hk rfl rfl ?_
  refine w_len (k := 41) rfl he hka (show AK 41 5 by unfold AK; decide) ?_
  show WG _ _ _ _ _ _ _ (5, [(0, vR (some a)), (1, vI (nI (lnK 41 σ ar + 1)))], [vI (nI (lnK 41 σ ar))], σ, 0, 0)
  refine w_run 2 (S' := (7, [(2, vI (nI (lnK 41 σ ar))), (0, vR (some a)), (1, vI (nI (lnK 41 σ ar + 1)))], [vI (nI (lnK 41 σ ar))], σ, 0, 0)) rfl ?_
  refine w_if_gt rfl (fun c1 => ?_) (fun c1 => (absurd ((nI_ltI (a := 0) (b := lnK 41 σ ar) (by omega) (by omega)).mpr (by omega)) c1))
  have nc1 := (nI_ltI (a := 0) (b := lnK 41 σ ar) (by omega) (by omega)).mp c1
  refine w_run 7 (S' := (27, [(2, vI (nI (lnK 41 σ ar))), (0, vR (some a)), (1, vI (nI (lnK 41 σ ar + 1)))], [vI ((nI (lnK 41 σ ar)) >>> (1 &&& 31)), vI ((nI (lnK 41 σ ar + 1)) - (nI (lnK 41 σ ar))), vI (nI (lnK 41 σ ar))], σ, 0, 0)) rfl ?_
  rw [show ((nI (lnK 41 σ ar)) >>> (1 &&& 31) : Int32) = nI ((lnK 41 σ ar) / 2) from ishr1 (by omega)]
  rw [show ((nI (lnK 41 σ ar + 1)) - (nI (lnK 41 σ ar)) : Int32) = nI (lnK 41 σ ar + 1 - (lnK 41 σ ar)) from nI_sub9 (a := lnK 41 σ ar + 1) (b := lnK 41 σ ar) (by omega)]
  show WG _ _ _ _ _ _ _ (27, [(2, vI (nI (lnK 41 σ ar))), (0, vR (some a)), (1, vI (nI (lnK 41 σ ar + 1)))], [vI (nI ((lnK 41 σ ar) / 2)), vI (nI (lnK 41 σ ar + 1 - (lnK 41 σ ar))), vI (nI (lnK 41 σ ar))], σ, 0, 0)
  refine w_callT (st := []) [vI (nI (lnK 41 σ ar)), vI (nI (lnK 41 σ ar + 1 - (lnK 41 σ ar))), vI (nI ((lnK 41 σ ar) / 2))] rfl ml_9_73 rfl (by simp only [RM]; omega) (by simp only [RM]; show 8 + (4 + 11) + _ ≤ _; omega) rfl (by simp only [RM]; omega) (by simp only [RM]; omega) (c_as_newLength l E (dd + 1) σ (lnK 41 σ ar) (lnK 41 σ ar + 1 - (lnK 41 σ ar)) ((lnK 41 σ ar) / 2) (by omega) (by omega) (by omega) (by omega) (by omega)) (fun _ _ h => h.elim) ?_
  intro r9 s9 q9
  rw [q9.1, q9.2]
  clear q9 r9 s9
  show WG _ _ _ _ _ _ _ (30, [(2, vI (nI (lnK 41 σ ar))), (0, vR (some a)), (1, vI (nI (lnK 41 σ ar + 1)))], [vI (nI (lnK 41 σ ar + max (lnK 41 σ ar + 1 - (lnK 41 σ ar)) ((lnK 41 σ ar) / 2)))], σ, 0, 0)
  refine w_run 3 (S' := (33, [(3, vI (nI (lnK 41 σ ar + max (lnK 41 σ ar + 1 - (lnK 41 σ ar)) ((lnK 41 σ ar) / 2)))), (2, vI (nI (lnK 41 σ ar))), (0, vR (some a)), (1, vI (nI (lnK 41 σ ar + 1)))], [vR (some a), vR (some a)], σ, 0, 0)) rfl ?_
  refine w_get (k := 20) (vR (σ.2.1 200100 a 0)) rfl rfl rfl hk rfl rfl ?_
  refine w_run 1 (S' := (37, [(3, vI (nI (lnK 41 σ ar + max (lnK 41 σ ar + 1 - (lnK 41 σ ar)) ((lnK 41 σ ar) / 2)))), (2, vI (nI (lnK 41 σ ar))), (0, vR (some a)), (1, vI (nI (lnK 41 σ ar + 1)))], [vI (nI (lnK 41 σ ar + max (lnK 41 σ ar + 1 - (lnK 41 σ ar)) ((lnK 41 σ ar) / 2))), vR (σ.2.1 200100 a 0), vR (some a)], σ, 0, 0)) rfl ?_
  refine Eq.mp (congrArg (fun x9 => WG _ _ _ _ _ _ _ (37, [(3, vI (nI (lnK 41 σ ar + max (lnK 41 σ ar + 1 - (lnK 41 σ ar)) ((lnK 41 σ ar) / 2)))), (2, vI (nI (lnK 41 σ ar))), (0, vR (some a)), (1, vI (nI (lnK 41 σ ar + 1)))], [vI (nI (lnK 41 σ ar + max (lnK 41 σ ar + 1 - (lnK 41 σ ar)) ((lnK 41 σ ar) / 2))), vR x9, vR (some a)], σ, 0, 0)) (Eq.symm he : some ar = σ.2.1 200100 a 0)) ?_
  show WG _ _ _ _ _ _ _ (37, [(3, vI (nI (lnK 41 σ ar + max (lnK 41 σ ar + 1 - (lnK 41 σ ar)) ((lnK 41 σ ar) / 2)))), (2, vI (nI (lnK 41 σ ar))), (0, vR (some a)), (1, vI (nI (lnK 41 σ ar + 1)))], [vI (nI (lnK 41 σ ar + max (lnK 41 σ ar + 1 - (lnK 41 σ ar)) ((lnK 41 σ ar) / 2))), vR (some ar), vR (some a)], σ, 0, 0)
  refine w_callT (st := [vR (some a)]) [vR (some ar), vI (nI (lnK 41 σ ar + max (lnK 41 σ ar + 1 - (lnK 41 σ ar)) ((lnK 41 σ ar) / 2)))] rfl ml_9_66 rfl (by simp only [RM]; omega) (by simp only [RM]; show 8 + (2 + 11) + _ ≤ _; omega) rfl (by simp only [RM]; omega) (by simp only [RM]; omega) (c_ay_copyOf_20 l E (dd + 2) σ ar (lnK 41 σ ar + max (lnK 41 σ ar + 1 - (lnK 41 σ ar)) ((lnK 41 σ ar) / 2)) dd (by omega) hka (by omega) (by omega)) (fun _ _ h => h.elim) ?_
  intro r9 s9 q9
  obtain ⟨q, hq, hqe, e1, e2⟩ := q9
  rw [e1, e2]
  clear e1 e2 r9 s9
  have hn_a : a ≠ q := ne0 (hk) hq (by decide)
  have hk_a : (sC (sA σ q 41 (lnK 41 σ ar + max (lnK 41 σ ar + 1 - (lnK 41 σ ar)) ((lnK 41 σ ar) / 2))) 410005 q (va_cpy (σ.2.1 410005 ar) (fun _ => none) 0 0 (lnK 41 σ ar))).2.2.2 a = 20 := by show (if a = q then _ else _) = _; rw [if_neg hn_a]; exact hk
  show WG _ _ _ _ _ _ _ (40, [(3, vI (nI (lnK 41 σ ar + max (lnK 41 σ ar + 1 - (lnK 41 σ ar)) ((lnK 41 σ ar) / 2)))), (2, vI (nI (lnK 41 σ ar))), (0, vR (some a)), (1, vI (nI (lnK 41 σ ar + 1)))], [vR (some q), vR (some a)], sC (sA σ q 41 (lnK 41 σ ar + max (lnK 41 σ ar + 1 - (lnK 41 σ ar)) ((lnK 41 σ ar) / 2))) 410005 q (va_cpy (σ.2.1 410005 ar) (fun _ => none) 0 0 (lnK 41 σ ar)), 0 + 1, 0 + (lnK 41 σ ar + max (lnK 41 σ ar + 1 - (lnK 41 σ ar)) ((lnK 41 σ ar) / 2)))
  refine w_run 1 (S' := (41, [(3, vI (nI (lnK 41 σ ar + max (lnK 41 σ ar + 1 - (lnK 41 σ ar)) ((lnK 41 σ ar) / 2)))), (2, vI (nI (lnK 41 σ ar))), (0, vR (some a)), (1, vI (nI (lnK 41 σ ar + 1)))], [vR (some q), vR (some a), vR (some q)], sC (sA σ q 41 (lnK 41 σ ar + max (lnK 41 σ ar + 1 - (lnK 41 σ ar)) ((lnK 41 σ ar) / 2))) 410005 q (va_cpy (σ.2.1 410005 ar) (fun _ => none) 0 0 (lnK 41 σ ar)), 0 + 1, 0 + (lnK 41 σ ar + max (lnK 41 σ ar + 1 - (lnK 41 σ ar)) ((lnK 41 σ ar) / 2)))) rfl ?_
  refine w_putr (k := 20) rfl rfl rfl hk_a rfl rfl (fun _ _ h9 => absurd rfl h9) rfl (Or.inl rfl) ?_
  show WG _ _ _ _ _ _ _ (44, [(3, vI (nI (lnK 41 σ ar + max (lnK 41 σ ar + 1 - (lnK 41 σ ar)) ((lnK 41 σ ar) / 2)))), (2, vI (nI (lnK 41 σ ar))), (0, vR (some a)), (1, vI (nI (lnK 41 σ ar + 1)))], [vR (some q)], sO (sC (sA σ q 41 (lnK 41 σ ar + max (lnK 41 σ ar + 1 - (lnK 41 σ ar)) ((lnK 41 σ ar) / 2))) 410005 q (va_cpy (σ.2.1 410005 ar) (fun _ => none) 0 0 (lnK 41 σ ar))) 200100 a 0 (some q), 0 + 1, 0 + (lnK 41 σ ar + max (lnK 41 σ ar + 1 - (lnK 41 σ ar)) ((lnK 41 σ ar) / 2)))
  exact w_aret rfl rfl (Or.inr ⟨_, rfl⟩) (by omega) (by omega) (⟨q, hq, hqe, rfl, rfl⟩)

set_option maxHeartbeats 4000000 in
theorem c_al_growE_20 (l : Launch) (E : FE) (d : Nat) (σ : Sg) (a : Nat) (hd : 1 ≤ d) (hk : σ.2.2.2 a = 20) (he : σ.2.1 200100 a 0 = some (fe E)) : CT l E d 216 [vR (some a), vI 1] σ 1 10 (fun r σ' => ∃ q, σ.2.2.2 q = 0 ∧ q ≠ fe E ∧ r = some (vR (some q)) ∧ σ' = sO (sA σ q 41 10) 200100 a 0 (some q)) (fun _ _ => False) := by
  refine CTo ok_al_grow (by decide +kernel) rfl rfl rfl ?_
  refine w_run 1 (S' := (1, [(0, vR (some a)), (1, vI 1)], [vR (some a)], σ, 0, 0)) rfl ?_
  refine w_get (k := 20) (vR (σ.2.1 200100 a 0)) rfl rfl rfl hk rfl rfl ?_
  refine w_lenE rfl he ?_
  show WG _ _ _ _ _ _ _ (5, [(0, vR (some a)), (1, vI 1)], [vI 0], σ, 0, 0)
  refine w_run 2 (S' := (7, [(2, vI 0), (0, vR (some a)), (1, vI 1)], [vI 0], σ, 0, 0)) rfl ?_
  refine w_if_gt rfl (fun c1 => (absurd ((nI_ltI (a := 0) (b := 0) (by omega) (by omega)).mp c1) (by omega))) (fun c1 => ?_)
  have nc1 := mt (nI_ltI (a := 0) (b := 0) (by omega) (by omega)).mpr c1
  refine w_run 1 (S' := (11, [(2, vI 0), (0, vR (some a)), (1, vI 1)], [vR (some a)], σ, 0, 0)) rfl ?_
  refine w_get (k := 20) (vR (σ.2.1 200100 a 0)) rfl rfl rfl hk rfl rfl ?_
  refine w_getsE rfl lk_empty ?_
  refine w_ac_eq rfl (fun c2 => ?_) (fun c2 => (absurd he c2))
  refine w_run 3 (S' := (49, [(2, vI 0), (0, vR (some a)), (1, vI 1)], [vI 1, vI 10, vR (some a)], σ, 0, 0)) rfl ?_
  refine w_max rfl mx_9_79 rfl (by simp only [RM]; omega) (by simp only [RM]; omega) (by simp only [RM]; omega) (by simp only [RM]; omega) ?_
  refine w_newqO (k := 41) (N := 10) rfl lk_obj9 (show AK 41 5 by unfold AK; decide) (by decide) (by omega) (by simp only [RM]; omega) (by simp only [RM]; omega) (fun q hq hqe => ?_)
  have hn_a : a ≠ q := ne0 (hk) hq (by decide)
  have hk_a : (sA σ q 41 10).2.2.2 a = 20 := by simp only [sA, sI, sN]; rw [if_neg hn_a]; exact hk
  have hkq : (sA σ q 41 10).2.2.2 q = 41 := by simp [sA, sI, sN]
  show WG _ _ _ _ _ _ _ (55, [(2, vI 0), (0, vR (some a)), (1, vI 1)], [vR (some q), vR (some a)], sA σ q 41 10, 0 + 1, 0 + 10)
  refine w_run 1 (S' := (56, [(2, vI 0), (0, vR (some a)), (1, vI 1)], [vR (some q), vR (some a), vR (some q)], sA σ q 41 10, 0 + 1, 0 + 10)) rfl ?_
  refine w_putr (k := 20) rfl rfl rfl hk_a rfl rfl (fun _ _ h9 => absurd rfl h9) rfl (Or.inl rfl) ?_
  show WG _ _ _ _ _ _ _ (59, [(2, vI 0), (0, vR (some a)), (1, vI 1)], [vR (some q)], sO (sA σ q 41 10) 200100 a 0 (some q), 0 + 1, 0 + 10)
  exact w_aret rfl rfl (Or.inr ⟨_, rfl⟩) (by omega) (by omega) (⟨q, hq, hqe, rfl, rfl⟩)

set_option maxHeartbeats 4000000 in
theorem c_al_grow0_20 (l : Launch) (E : FE) (d : Nat) (σ : Sg) (a ar dd : Nat) (hd : dd + 5 ≤ d) (hk : σ.2.2.2 a = 20) (hka : σ.2.2.2 ar = 41) (he : σ.2.1 200100 a 0 = some ar) (hL1 : 1 ≤ lnK 41 σ ar) (hL2 : lnK 41 σ ar ≤ 300) (hs : σ.1 200200 a 0 = nI (lnK 41 σ ar)) : CT l E d 215 [vR (some a)] σ 1 (lnK 41 σ ar + max (lnK 41 σ ar + 1 - (lnK 41 σ ar)) ((lnK 41 σ ar) / 2)) (fun r σ' => ∃ q, σ.2.2.2 q = 0 ∧ q ≠ fe E ∧ r = some (vR (some q)) ∧ σ' = sO (sC (sA σ q 41 (lnK 41 σ ar + max (lnK 41 σ ar + 1 - (lnK 41 σ ar)) ((lnK 41 σ ar) / 2))) 410005 q (va_cpy (σ.2.1 410005 ar) (fun _ => none) 0 0 (lnK 41 σ ar))) 200100 a 0 (some q)) (fun _ _ => False) := by
  refine CTo ok_al_grow0 (by decide +kernel) rfl rfl rfl ?_
  refine w_run 2 (S' := (2, [(0, vR (some a))], [vR (some a), vR (some a)], σ, 0, 0)) rfl ?_
  refine w_get (k := 20) (vI (σ.1 200200 a 0)) rfl rfl rfl hk rfl rfl ?_
  refine Eq.mp (congrArg (fun x9 => WG _ _ _ _ _ _ _ (5, [(0, vR (some a))], [vI x9, vR (some a)], σ, 0, 0)) (hs.symm : nI (lnK 41 σ ar) = σ.1 200200 a 0)) ?_
  show WG _ _ _ _ _ _ _ (5, [(0, vR (some a))], [vI (nI (lnK 41 σ ar)), vR (some a)], σ, 0, 0)
  refine w_run 2 (S' := (7, [(0, vR (some a))], [vI ((nI (lnK 41 σ ar)) + 1), vR (some a)], σ, 0, 0)) rfl ?_
  rw [show ((nI (lnK 41 σ ar)) + 1 : Int32) = nI (lnK 41 σ ar + 1) from by simp only [nl0, nl1, nl2, nl3, nl4, nl5, nl6, nl8, nl9, nl10, nl12, nl15, nl16, nl20, nl24, nl32, nl40, nl64, nl65, nl384, pk_mul, nI_add]]
  show WG _ _ _ _ _ _ _ (7, [(0, vR (some a))], [vI (nI (lnK 41 σ ar + 1)), vR (some a)], σ, 0, 0)
  refine w_callV (st := []) [vI (nI (lnK 41 σ ar + 1))] rfl ml_9_69 rfl rfl hk rfl rfl rfl (by simp only [RM]; omega) (by simp only [RM]; show 8 + (4 + 11) + _ ≤ _; omega) rfl (by simp only [RM]; omega) (by simp only [RM]; omega) (c_al_grow_20 l E (dd + 4) σ a ar dd (by omega) hk hka he hL1 hL2) (fun _ _ h => h.elim) ?_
  intro r9 s9 q9
  obtain ⟨q, hq, hqe, e1, e2⟩ := q9
  rw [e1, e2]
  clear e1 e2 r9 s9
  show WG _ _ _ _ _ _ _ (10, [(0, vR (some a))], [vR (some q)], sO (sC (sA σ q 41 (lnK 41 σ ar + max (lnK 41 σ ar + 1 - (lnK 41 σ ar)) ((lnK 41 σ ar) / 2))) 410005 q (va_cpy (σ.2.1 410005 ar) (fun _ => none) 0 0 (lnK 41 σ ar))) 200100 a 0 (some q), 0 + 1, 0 + (lnK 41 σ ar + max (lnK 41 σ ar + 1 - (lnK 41 σ ar)) ((lnK 41 σ ar) / 2)))
  exact w_aret rfl rfl (Or.inr ⟨_, rfl⟩) (by omega) (by omega) (⟨q, hq, hqe, rfl, rfl⟩)

set_option maxHeartbeats 4000000 in
theorem c_al_grow0E_20 (l : Launch) (E : FE) (d : Nat) (σ : Sg) (a dd : Nat) (hd : dd + 2 ≤ d) (hk : σ.2.2.2 a = 20) (he : σ.2.1 200100 a 0 = some (fe E)) (hs : σ.1 200200 a 0 = nI 0) : CT l E d 215 [vR (some a)] σ 1 10 (fun r σ' => ∃ q, σ.2.2.2 q = 0 ∧ q ≠ fe E ∧ r = some (vR (some q)) ∧ σ' = sO (sA σ q 41 10) 200100 a 0 (some q)) (fun _ _ => False) := by
  refine CTo ok_al_grow0 (by decide +kernel) rfl rfl rfl ?_
  refine w_run 2 (S' := (2, [(0, vR (some a))], [vR (some a), vR (some a)], σ, 0, 0)) rfl ?_
  refine w_get (k := 20) (vI (σ.1 200200 a 0)) rfl rfl rfl hk rfl rfl ?_
  refine Eq.mp (congrArg (fun x9 => WG _ _ _ _ _ _ _ (5, [(0, vR (some a))], [vI x9, vR (some a)], σ, 0, 0)) (hs.symm : nI 0 = σ.1 200200 a 0)) ?_
  show WG _ _ _ _ _ _ _ (5, [(0, vR (some a))], [vI 0, vR (some a)], σ, 0, 0)
  refine w_run 2 (S' := (7, [(0, vR (some a))], [vI (0 + 1), vR (some a)], σ, 0, 0)) rfl ?_
  rw [show (0 + 1 : Int32) = nI (0 + 1) from by simp only [nl0, nl1, nl2, nl3, nl4, nl5, nl6, nl8, nl9, nl10, nl12, nl15, nl16, nl20, nl24, nl32, nl40, nl64, nl65, nl384, pk_mul, nI_add]]
  show WG _ _ _ _ _ _ _ (7, [(0, vR (some a))], [vI (nI (0 + 1)), vR (some a)], σ, 0, 0)
  refine w_callV (st := []) [vI (nI (0 + 1))] rfl ml_9_69 rfl rfl hk rfl rfl rfl (by simp only [RM]; omega) (by simp only [RM]; show 8 + (4 + 11) + _ ≤ _; omega) rfl (by simp only [RM]; omega) (by simp only [RM]; omega) (c_al_growE_20 l E (dd + 1) σ a (by omega) hk he) (fun _ _ h => h.elim) ?_
  intro r9 s9 q9
  obtain ⟨q, hq, hqe, e1, e2⟩ := q9
  rw [e1, e2]
  clear e1 e2 r9 s9
  show WG _ _ _ _ _ _ _ (10, [(0, vR (some a))], [vR (some q)], sO (sA σ q 41 10) 200100 a 0 (some q), 0 + 1, 0 + 10)
  exact w_aret rfl rfl (Or.inr ⟨_, rfl⟩) (by omega) (by omega) (⟨q, hq, hqe, rfl, rfl⟩)

set_option maxHeartbeats 4000000 in
theorem c_al_add3r_20 (l : Launch) (E : FE) (d : Nat) (σ : Sg) (a ar b n : Nat) (hk : σ.2.2.2 a = 20) (hka : σ.2.2.2 ar = 41) (hb : σ.2.2.2 b = 5) (hn : n < lnK 41 σ ar) (hL2 : lnK 41 σ ar ≤ 300) : CT l E d 214 [vR (some a), vR (some b), vR (some ar), vI (nI n)] σ 0 0 (fun r σ' => r = none ∧ σ' = sI (sO σ 410005 ar n (some b)) 200200 a 0 (nI (n + 1))) (fun _ _ => False) := by
  refine CTo ok_al_add3 (by decide +kernel) rfl rfl rfl ?_
  refine w_run 2 (S' := (2, [(0, vR (some a)), (1, vR (some b)), (2, vR (some ar)), (3, vI (nI n))], [vR (some ar), vI (nI n)], σ, 0, 0)) rfl ?_
  refine w_len (k := 41) rfl rfl hka (show AK 41 5 by unfold AK; decide) ?_
  show WG _ _ _ _ _ _ _ (3, [(0, vR (some a)), (1, vR (some b)), (2, vR (some ar)), (3, vI (nI n))], [vI (nI (lnK 41 σ ar)), vI (nI n)], σ, 0, 0)
  refine w_ic_ne rfl (fun c1 => ?_) (fun c1 => (absurd ((nI_eq (a := n) (b := lnK 41 σ ar) (by omega) (by omega)).mp c1) (by omega)))
  have nc1 := mt (nI_eq (a := n) (b := lnK 41 σ ar) (by omega) (by omega)).mpr c1
  refine w_run 3 (S' := (14, [(0, vR (some a)), (1, vR (some b)), (2, vR (some ar)), (3, vI (nI n))], [vR (some b), vI (nI n), vR (some ar)], σ, 0, 0)) rfl ?_
  refine w_aastM (k := 41) rfl rfl hka (show AK 41 5 by unfold AK; decide) rfl hb (show vp_in (nI n) (lnK 41 σ ar) from vp_in_nI (by omega) (by omega)) ?_
  show WG _ _ _ _ _ _ _ (15, [(0, vR (some a)), (1, vR (some b)), (2, vR (some ar)), (3, vI (nI n))], [], sO σ 410005 ar ((nI n).toNatClampNeg) (some b), 0, 0)
  rw [show (nI n : Int32).toNatClampNeg = n from nI_clamp (n := n) (by omega)]
  refine w_run 4 (S' := (19, [(0, vR (some a)), (1, vR (some b)), (2, vR (some ar)), (3, vI (nI n))], [vI ((nI n) + 1), vR (some a)], sO σ 410005 ar n (some b), 0, 0)) rfl ?_
  rw [show ((nI n) + 1 : Int32) = nI (n + 1) from by simp only [nl0, nl1, nl2, nl3, nl4, nl5, nl6, nl8, nl9, nl10, nl12, nl15, nl16, nl20, nl24, nl32, nl40, nl64, nl65, nl384, pk_mul, nI_add]]
  show WG _ _ _ _ _ _ _ (19, [(0, vR (some a)), (1, vR (some b)), (2, vR (some ar)), (3, vI (nI n))], [vI (nI (n + 1)), vR (some a)], sO σ 410005 ar n (some b), 0, 0)
  refine w_puti (k := 20) rfl rfl rfl hk rfl rfl (Or.inl rfl) (Or.inl rfl) ?_
  show WG _ _ _ _ _ _ _ (22, [(0, vR (some a)), (1, vR (some b)), (2, vR (some ar)), (3, vI (nI n))], [], sI (sO σ 410005 ar n (some b)) 200200 a 0 (nI (n + 1)), 0, 0)
  exact w_vret rfl rfl (by omega) (by omega) (⟨rfl, rfl⟩)

set_option maxHeartbeats 4000000 in
theorem c_al_add3m_20 (l : Launch) (E : FE) (d : Nat) (σ : Sg) (a ar b dd : Nat) (hd : dd + 6 ≤ d) (hk : σ.2.2.2 a = 20) (hka : σ.2.2.2 ar = 41) (hb : σ.2.2.2 b = 5) (he : σ.2.1 200100 a 0 = some ar) (hL1 : 1 ≤ lnK 41 σ ar) (hL2 : lnK 41 σ ar ≤ 300) (hs : σ.1 200200 a 0 = nI (lnK 41 σ ar)) : CT l E d 214 [vR (some a), vR (some b), vR (some ar), vI (nI (lnK 41 σ ar))] σ 1 (lnK 41 σ ar + max (lnK 41 σ ar + 1 - (lnK 41 σ ar)) ((lnK 41 σ ar) / 2)) (fun r σ' => ∃ q, σ.2.2.2 q = 0 ∧ q ≠ fe E ∧ r = none ∧ σ' = sI (sO (sO (sC (sA σ q 41 (lnK 41 σ ar + max (lnK 41 σ ar + 1 - (lnK 41 σ ar)) ((lnK 41 σ ar) / 2))) 410005 q (va_cpy (σ.2.1 410005 ar) (fun _ => none) 0 0 (lnK 41 σ ar))) 200100 a 0 (some q)) 410005 q (lnK 41 σ ar) (some b)) 200200 a 0 (nI (lnK 41 σ ar + 1))) (fun _ _ => False) := by
  refine CTo ok_al_add3 (by decide +kernel) rfl rfl rfl ?_
  refine w_run 2 (S' := (2, [(0, vR (some a)), (1, vR (some b)), (2, vR (some ar)), (3, vI (nI (lnK 41 σ ar)))], [vR (some ar), vI (nI (lnK 41 σ ar))], σ, 0, 0)) rfl ?_
  refine w_len (k := 41) rfl rfl hka (show AK 41 5 by unfold AK; decide) ?_
  show WG _ _ _ _ _ _ _ (3, [(0, vR (some a)), (1, vR (some b)), (2, vR (some ar)), (3, vI (nI (lnK 41 σ ar)))], [vI (nI (lnK 41 σ ar)), vI (nI (lnK 41 σ ar))], σ, 0, 0)
  refine w_ic_ne rfl (fun c1 => (absurd ((nI_eq (a := lnK 41 σ ar) (b := lnK 41 σ ar) (by omega) (by omega)).mpr (by omega)) c1)) (fun c1 => ?_)
  have nc1 := (nI_eq (a := lnK 41 σ ar) (b := lnK 41 σ ar) (by omega) (by omega)).mp c1
  refine w_run 1 (S' := (7, [(0, vR (some a)), (1, vR (some b)), (2, vR (some ar)), (3, vI (nI (lnK 41 σ ar)))], [vR (some a)], σ, 0, 0)) rfl ?_
  refine w_callV (st := []) [] rfl ml_9_129 rfl rfl hk rfl rfl rfl (by simp only [RM]; omega) (by simp only [RM]; show 8 + (1 + 11) + _ ≤ _; omega) rfl (by simp only [RM]; omega) (by simp only [RM]; omega) (c_al_grow0_20 l E (dd + 5) σ a ar dd (by omega) hk hka he hL1 hL2 hs) (fun _ _ h => h.elim) ?_
  intro r9 s9 q9
  obtain ⟨q, hq, hqe, e1, e2⟩ := q9
  rw [e1, e2]
  clear e1 e2 r9 s9
  have hn_a : a ≠ q := ne0 (hk) hq (by decide)
  have hk_a : (sO (sC (sA σ q 41 (lnK 41 σ ar + max (lnK 41 σ ar + 1 - (lnK 41 σ ar)) ((lnK 41 σ ar) / 2))) 410005 q (va_cpy (σ.2.1 410005 ar) (fun _ => none) 0 0 (lnK 41 σ ar))) 200100 a 0 (some q)).2.2.2 a = 20 := by show (if a = q then _ else _) = _; rw [if_neg hn_a]; exact hk
  have hn_b : b ≠ q := ne0 (hb) hq (by decide)
  have hk_b : (sO (sC (sA σ q 41 (lnK 41 σ ar + max (lnK 41 σ ar + 1 - (lnK 41 σ ar)) ((lnK 41 σ ar) / 2))) 410005 q (va_cpy (σ.2.1 410005 ar) (fun _ => none) 0 0 (lnK 41 σ ar))) 200100 a 0 (some q)).2.2.2 b = 5 := by show (if b = q then _ else _) = _; rw [if_neg hn_b]; exact hb
  have hkq : (sO (sC (sA σ q 41 (lnK 41 σ ar + max (lnK 41 σ ar + 1 - (lnK 41 σ ar)) ((lnK 41 σ ar) / 2))) 410005 q (va_cpy (σ.2.1 410005 ar) (fun _ => none) 0 0 (lnK 41 σ ar))) 200100 a 0 (some q)).2.2.2 q = 41 := by show (if q = q then _ else _) = _; rw [if_pos rfl]
  have hlq : lnK 41 (sO (sC (sA σ q 41 (lnK 41 σ ar + max (lnK 41 σ ar + 1 - (lnK 41 σ ar)) ((lnK 41 σ ar) / 2))) 410005 q (va_cpy (σ.2.1 410005 ar) (fun _ => none) 0 0 (lnK 41 σ ar))) 200100 a 0 (some q)) q = (lnK 41 σ ar + max (lnK 41 σ ar + 1 - (lnK 41 σ ar)) ((lnK 41 σ ar) / 2)) := sA_lenq (k := 41) (by omega)
  show WG _ _ _ _ _ _ _ (10, [(0, vR (some a)), (1, vR (some b)), (2, vR (some ar)), (3, vI (nI (lnK 41 σ ar)))], [vR (some q)], sO (sC (sA σ q 41 (lnK 41 σ ar + max (lnK 41 σ ar + 1 - (lnK 41 σ ar)) ((lnK 41 σ ar) / 2))) 410005 q (va_cpy (σ.2.1 410005 ar) (fun _ => none) 0 0 (lnK 41 σ ar))) 200100 a 0 (some q), 0 + 1, 0 + (lnK 41 σ ar + max (lnK 41 σ ar + 1 - (lnK 41 σ ar)) ((lnK 41 σ ar) / 2)))
  refine w_run 4 (S' := (14, [(2, vR (some q)), (0, vR (some a)), (1, vR (some b)), (3, vI (nI (lnK 41 σ ar)))], [vR (some b), vI (nI (lnK 41 σ ar)), vR (some q)], sO (sC (sA σ q 41 (lnK 41 σ ar + max (lnK 41 σ ar + 1 - (lnK 41 σ ar)) ((lnK 41 σ ar) / 2))) 410005 q (va_cpy (σ.2.1 410005 ar) (fun _ => none) 0 0 (lnK 41 σ ar))) 200100 a 0 (some q), 0 + 1, 0 + (lnK 41 σ ar + max (lnK 41 σ ar + 1 - (lnK 41 σ ar)) ((lnK 41 σ ar) / 2)))) rfl ?_
  refine w_aastM (k := 41) rfl rfl hkq (show AK 41 5 by unfold AK; decide) rfl hk_b (show vp_in (nI (lnK 41 σ ar)) (lnK 41 (sO (sC (sA σ q 41 (lnK 41 σ ar + max (lnK 41 σ ar + 1 - (lnK 41 σ ar)) ((lnK 41 σ ar) / 2))) 410005 q (va_cpy (σ.2.1 410005 ar) (fun _ => none) 0 0 (lnK 41 σ ar))) 200100 a 0 (some q)) q) from vp_in_nI (by rw [hlq]; omega) (by rw [hlq]; omega)) ?_
  show WG _ _ _ _ _ _ _ (15, [(2, vR (some q)), (0, vR (some a)), (1, vR (some b)), (3, vI (nI (lnK 41 σ ar)))], [], sO (sO (sC (sA σ q 41 (lnK 41 σ ar + max (lnK 41 σ ar + 1 - (lnK 41 σ ar)) ((lnK 41 σ ar) / 2))) 410005 q (va_cpy (σ.2.1 410005 ar) (fun _ => none) 0 0 (lnK 41 σ ar))) 200100 a 0 (some q)) 410005 q ((nI (lnK 41 σ ar)).toNatClampNeg) (some b), 0 + 1, 0 + (lnK 41 σ ar + max (lnK 41 σ ar + 1 - (lnK 41 σ ar)) ((lnK 41 σ ar) / 2)))
  rw [show (nI (lnK 41 σ ar) : Int32).toNatClampNeg = lnK 41 σ ar from nI_clamp (n := lnK 41 σ ar) (by omega)]
  refine w_run 4 (S' := (19, [(2, vR (some q)), (0, vR (some a)), (1, vR (some b)), (3, vI (nI (lnK 41 σ ar)))], [vI ((nI (lnK 41 σ ar)) + 1), vR (some a)], sO (sO (sC (sA σ q 41 (lnK 41 σ ar + max (lnK 41 σ ar + 1 - (lnK 41 σ ar)) ((lnK 41 σ ar) / 2))) 410005 q (va_cpy (σ.2.1 410005 ar) (fun _ => none) 0 0 (lnK 41 σ ar))) 200100 a 0 (some q)) 410005 q (lnK 41 σ ar) (some b), 0 + 1, 0 + (lnK 41 σ ar + max (lnK 41 σ ar + 1 - (lnK 41 σ ar)) ((lnK 41 σ ar) / 2)))) rfl ?_
  rw [show ((nI (lnK 41 σ ar)) + 1 : Int32) = nI (lnK 41 σ ar + 1) from by simp only [nl0, nl1, nl2, nl3, nl4, nl5, nl6, nl8, nl9, nl10, nl12, nl15, nl16, nl20, nl24, nl32, nl40, nl64, nl65, nl384, pk_mul, nI_add]]
  show WG _ _ _ _ _ _ _ (19, [(2, vR (some q)), (0, vR (some a)), (1, vR (some b)), (3, vI (nI (lnK 41 σ ar)))], [vI (nI (lnK 41 σ ar + 1)), vR (some a)], sO (sO (sC (sA σ q 41 (lnK 41 σ ar + max (lnK 41 σ ar + 1 - (lnK 41 σ ar)) ((lnK 41 σ ar) / 2))) 410005 q (va_cpy (σ.2.1 410005 ar) (fun _ => none) 0 0 (lnK 41 σ ar))) 200100 a 0 (some q)) 410005 q (lnK 41 σ ar) (some b), 0 + 1, 0 + (lnK 41 σ ar + max (lnK 41 σ ar + 1 - (lnK 41 σ ar)) ((lnK 41 σ ar) / 2)))
  refine w_puti (k := 20) rfl rfl rfl hk_a rfl rfl (Or.inl rfl) (Or.inl rfl) ?_
  show WG _ _ _ _ _ _ _ (22, [(2, vR (some q)), (0, vR (some a)), (1, vR (some b)), (3, vI (nI (lnK 41 σ ar)))], [], sI (sO (sO (sC (sA σ q 41 (lnK 41 σ ar + max (lnK 41 σ ar + 1 - (lnK 41 σ ar)) ((lnK 41 σ ar) / 2))) 410005 q (va_cpy (σ.2.1 410005 ar) (fun _ => none) 0 0 (lnK 41 σ ar))) 200100 a 0 (some q)) 410005 q (lnK 41 σ ar) (some b)) 200200 a 0 (nI (lnK 41 σ ar + 1)), 0 + 1, 0 + (lnK 41 σ ar + max (lnK 41 σ ar + 1 - (lnK 41 σ ar)) ((lnK 41 σ ar) / 2)))
  exact w_vret rfl rfl (by omega) (by omega) (⟨q, hq, hqe, rfl, rfl⟩)

set_option maxHeartbeats 4000000 in
theorem c_al_add3e_20 (l : Launch) (E : FE) (d : Nat) (σ : Sg) (a b dd : Nat) (hd : dd + 3 ≤ d) (hk : σ.2.2.2 a = 20) (hb : σ.2.2.2 b = 5) (he : σ.2.1 200100 a 0 = some (fe E)) (hs : σ.1 200200 a 0 = nI 0) : CT l E d 214 [vR (some a), vR (some b), vR (some (fe E)), vI 0] σ 1 10 (fun r σ' => ∃ q, σ.2.2.2 q = 0 ∧ q ≠ fe E ∧ r = none ∧ σ' = sI (sO (sO (sA σ q 41 10) 200100 a 0 (some q)) 410005 q (0) (some b)) 200200 a 0 (nI (0 + 1))) (fun _ _ => False) := by
  refine CTo ok_al_add3 (by decide +kernel) rfl rfl rfl ?_
  refine w_run 2 (S' := (2, [(0, vR (some a)), (1, vR (some b)), (2, vR (some (fe E))), (3, vI 0)], [vR (some (fe E)), vI 0], σ, 0, 0)) rfl ?_
  refine w_lenE rfl rfl ?_
  show WG _ _ _ _ _ _ _ (3, [(0, vR (some a)), (1, vR (some b)), (2, vR (some (fe E))), (3, vI 0)], [vI 0, vI 0], σ, 0, 0)
  refine w_ic_ne rfl (fun c1 => (absurd ((nI_eq (a := 0) (b := 0) (by omega) (by omega)).mpr (by omega)) c1)) (fun c1 => ?_)
  have nc1 := (nI_eq (a := 0) (b := 0) (by omega) (by omega)).mp c1
  refine w_run 1 (S' := (7, [(0, vR (some a)), (1, vR (some b)), (2, vR (some (fe E))), (3, vI 0)], [vR (some a)], σ, 0, 0)) rfl ?_
  refine w_callV (st := []) [] rfl ml_9_129 rfl rfl hk rfl rfl rfl (by simp only [RM]; omega) (by simp only [RM]; show 8 + (1 + 11) + _ ≤ _; omega) rfl (by simp only [RM]; omega) (by simp only [RM]; omega) (c_al_grow0E_20 l E (dd + 2) σ a dd (by omega) hk he hs) (fun _ _ h => h.elim) ?_
  intro r9 s9 q9
  obtain ⟨q, hq, hqe, e1, e2⟩ := q9
  rw [e1, e2]
  clear e1 e2 r9 s9
  have hn_a : a ≠ q := ne0 (hk) hq (by decide)
  have hk_a : (sO (sA σ q 41 10) 200100 a 0 (some q)).2.2.2 a = 20 := by show (if a = q then _ else _) = _; rw [if_neg hn_a]; exact hk
  have hn_b : b ≠ q := ne0 (hb) hq (by decide)
  have hk_b : (sO (sA σ q 41 10) 200100 a 0 (some q)).2.2.2 b = 5 := by show (if b = q then _ else _) = _; rw [if_neg hn_b]; exact hb
  have hkq : (sO (sA σ q 41 10) 200100 a 0 (some q)).2.2.2 q = 41 := by show (if q = q then _ else _) = _; rw [if_pos rfl]
  have hlq : lnK 41 (sO (sA σ q 41 10) 200100 a 0 (some q)) q = 10 := sA_lenq (k := 41) (by omega)
  show WG _ _ _ _ _ _ _ (10, [(0, vR (some a)), (1, vR (some b)), (2, vR (some (fe E))), (3, vI 0)], [vR (some q)], sO (sA σ q 41 10) 200100 a 0 (some q), 0 + 1, 0 + 10)
  refine w_run 4 (S' := (14, [(2, vR (some q)), (0, vR (some a)), (1, vR (some b)), (3, vI 0)], [vR (some b), vI 0, vR (some q)], sO (sA σ q 41 10) 200100 a 0 (some q), 0 + 1, 0 + 10)) rfl ?_
  refine w_aastM (k := 41) rfl rfl hkq (show AK 41 5 by unfold AK; decide) rfl hk_b (show vp_in (nI 0) (lnK 41 (sO (sA σ q 41 10) 200100 a 0 (some q)) q) from vp_in_nI (by rw [hlq]; omega) (by rw [hlq]; omega)) ?_
  show WG _ _ _ _ _ _ _ (15, [(2, vR (some q)), (0, vR (some a)), (1, vR (some b)), (3, vI 0)], [], sO (sO (sA σ q 41 10) 200100 a 0 (some q)) 410005 q ((0 : Int32).toNatClampNeg) (some b), 0 + 1, 0 + 10)
  rw [show (0 : Int32).toNatClampNeg = 0 from nI_clamp (n := 0) (by omega)]
  refine w_run 4 (S' := (19, [(2, vR (some q)), (0, vR (some a)), (1, vR (some b)), (3, vI 0)], [vI (0 + 1), vR (some a)], sO (sO (sA σ q 41 10) 200100 a 0 (some q)) 410005 q 0 (some b), 0 + 1, 0 + 10)) rfl ?_
  rw [show (0 + 1 : Int32) = nI (0 + 1) from by simp only [nl0, nl1, nl2, nl3, nl4, nl5, nl6, nl8, nl9, nl10, nl12, nl15, nl16, nl20, nl24, nl32, nl40, nl64, nl65, nl384, pk_mul, nI_add]]
  show WG _ _ _ _ _ _ _ (19, [(2, vR (some q)), (0, vR (some a)), (1, vR (some b)), (3, vI 0)], [vI (nI (0 + 1)), vR (some a)], sO (sO (sA σ q 41 10) 200100 a 0 (some q)) 410005 q 0 (some b), 0 + 1, 0 + 10)
  refine w_puti (k := 20) rfl rfl rfl hk_a rfl rfl (Or.inl rfl) (Or.inl rfl) ?_
  show WG _ _ _ _ _ _ _ (22, [(2, vR (some q)), (0, vR (some a)), (1, vR (some b)), (3, vI 0)], [], sI (sO (sO (sA σ q 41 10) 200100 a 0 (some q)) 410005 q 0 (some b)) 200200 a 0 (nI (0 + 1)), 0 + 1, 0 + 10)
  exact w_vret rfl rfl (by omega) (by omega) (⟨q, hq, hqe, rfl, rfl⟩)

set_option maxHeartbeats 4000000 in
theorem c_al_addr_20 (l : Launch) (E : FE) (d : Nat) (σ : Sg) (a ar b n dd : Nat) (hd : dd + 1 ≤ d) (hk : σ.2.2.2 a = 20) (hka : σ.2.2.2 ar = 41) (hb : σ.2.2.2 b = 5) (he : σ.2.1 200100 a 0 = some ar) (hs : σ.1 200200 a 0 = nI n) (hn : n < lnK 41 σ ar) (hL2 : lnK 41 σ ar ≤ 300) : CT l E d 204 [vR (some a), vR (some b)] σ 1 450 (fun r σ' => r = some (vI 1) ∧ σ' = sI (sO (sI σ 200000 a 0 (σ.1 200000 a 0 + 1)) 410005 ar n (some b)) 200200 a 0 (nI (n + 1))) (fun _ _ => False) := by
  refine CTo ok_al_add (by decide +kernel) rfl rfl rfl ?_
  refine w_run 2 (S' := (2, [(0, vR (some a)), (1, vR (some b))], [vR (some a), vR (some a)], σ, 0, 0)) rfl ?_
  refine w_get (k := 20) (vI (σ.1 200000 a 0)) rfl rfl rfl hk rfl rfl ?_
  refine w_run 2 (S' := (7, [(0, vR (some a)), (1, vR (some b))], [vI ((σ.1 200000 a 0) + 1), vR (some a)], σ, 0, 0)) rfl ?_
  refine w_puti (k := 20) rfl rfl rfl hk rfl rfl (Or.inl rfl) (Or.inl rfl) ?_
  show WG _ _ _ _ _ _ _ (10, [(0, vR (some a)), (1, vR (some b))], [], sI σ 200000 a 0 ((σ.1 200000 a 0) + 1), 0, 0)
  refine w_run 3 (S' := (13, [(0, vR (some a)), (1, vR (some b))], [vR (some a), vR (some b), vR (some a)], sI σ 200000 a 0 ((σ.1 200000 a 0) + 1), 0, 0)) rfl ?_
  refine w_get (k := 20) (vR (σ.2.1 200100 a 0)) rfl rfl rfl hk rfl rfl ?_
  refine w_run 1 (S' := (17, [(0, vR (some a)), (1, vR (some b))], [vR (some a), vR (σ.2.1 200100 a 0), vR (some b), vR (some a)], sI σ 200000 a 0 ((σ.1 200000 a 0) + 1), 0, 0)) rfl ?_
  refine w_get (k := 20) (vI (σ.1 200200 a 0)) rfl rfl rfl hk rfl rfl ?_
  refine Eq.mp (congrArg (fun x9 => WG _ _ _ _ _ _ _ (20, [(0, vR (some a)), (1, vR (some b))], [vI x9, vR (σ.2.1 200100 a 0), vR (some b), vR (some a)], sI σ 200000 a 0 ((σ.1 200000 a 0) + 1), 0, 0)) (hs.symm : nI n = σ.1 200200 a 0)) ?_
  show WG _ _ _ _ _ _ _ (20, [(0, vR (some a)), (1, vR (some b))], [vI (nI n), vR (σ.2.1 200100 a 0), vR (some b), vR (some a)], sI σ 200000 a 0 ((σ.1 200000 a 0) + 1), 0, 0)
  refine Eq.mp (congrArg (fun x9 => WG _ _ _ _ _ _ _ (20, [(0, vR (some a)), (1, vR (some b))], [vI (nI n), vR x9, vR (some b), vR (some a)], sI σ 200000 a 0 ((σ.1 200000 a 0) + 1), 0, 0)) (Eq.symm he : some ar = σ.2.1 200100 a 0)) ?_
  show WG _ _ _ _ _ _ _ (20, [(0, vR (some a)), (1, vR (some b))], [vI (nI n), vR (some ar), vR (some b), vR (some a)], sI σ 200000 a 0 ((σ.1 200000 a 0) + 1), 0, 0)
  refine w_callV (st := []) [vR (some b), vR (some ar), vI (nI n)] rfl ml_9_131 rfl rfl hk rfl rfl rfl (by simp only [RM]; omega) (by simp only [RM]; show 8 + (4 + 11) + _ ≤ _; omega) rfl (by simp only [RM]; omega) (by simp only [RM]; omega) (c_al_add3r_20 l E dd (sI σ 200000 a 0 (σ.1 200000 a 0 + 1)) a ar b n hk hka hb hn hL2) (fun _ _ h => h.elim) ?_
  intro r9 s9 q9
  rw [q9.1, q9.2]
  clear q9 r9 s9
  show WG _ _ _ _ _ _ _ (23, [(0, vR (some a)), (1, vR (some b))], [], sI (sO (sI σ 200000 a 0 (σ.1 200000 a 0 + 1)) 410005 ar n (some b)) 200200 a 0 (nI (n + 1)), 0, 0)
  refine w_run 1 (S' := (24, [(0, vR (some a)), (1, vR (some b))], [vI 1], sI (sO (sI σ 200000 a 0 (σ.1 200000 a 0 + 1)) 410005 ar n (some b)) 200200 a 0 (nI (n + 1)), 0, 0)) rfl ?_
  exact w_iret rfl (Or.inr ⟨rfl, Or.inr rfl⟩) (by omega) (by omega) (⟨rfl, rfl⟩)

set_option maxHeartbeats 4000000 in
theorem c_al_addm_20 (l : Launch) (E : FE) (d : Nat) (σ : Sg) (a ar b dd : Nat) (hd : dd + 7 ≤ d) (hk : σ.2.2.2 a = 20) (hka : σ.2.2.2 ar = 41) (hb : σ.2.2.2 b = 5) (he : σ.2.1 200100 a 0 = some ar) (hL1 : 1 ≤ lnK 41 σ ar) (hL2 : lnK 41 σ ar ≤ 300) (hs : σ.1 200200 a 0 = nI (lnK 41 σ ar)) : CT l E d 204 [vR (some a), vR (some b)] σ 1 450 (fun r σ' => ∃ q, σ.2.2.2 q = 0 ∧ q ≠ fe E ∧ r = some (vI 1) ∧ σ' = sI (sO (sO (sC (sA (sI σ 200000 a 0 (σ.1 200000 a 0 + 1)) q 41 (lnK 41 (sI σ 200000 a 0 (σ.1 200000 a 0 + 1)) ar + max (lnK 41 (sI σ 200000 a 0 (σ.1 200000 a 0 + 1)) ar + 1 - (lnK 41 (sI σ 200000 a 0 (σ.1 200000 a 0 + 1)) ar)) ((lnK 41 (sI σ 200000 a 0 (σ.1 200000 a 0 + 1)) ar) / 2))) 410005 q (va_cpy ((sI σ 200000 a 0 (σ.1 200000 a 0 + 1)).2.1 410005 ar) (fun _ => none) 0 0 (lnK 41 (sI σ 200000 a 0 (σ.1 200000 a 0 + 1)) ar))) 200100 a 0 (some q)) 410005 q (lnK 41 (sI σ 200000 a 0 (σ.1 200000 a 0 + 1)) ar) (some b)) 200200 a 0 (nI (lnK 41 (sI σ 200000 a 0 (σ.1 200000 a 0 + 1)) ar + 1))) (fun _ _ => False) := by
  have hL9 : lnK 41 (sI σ 200000 a 0 (σ.1 200000 a 0 + 1)) ar ≤ 300 := hL2
  refine CTo ok_al_add (by decide +kernel) rfl rfl rfl ?_
  refine w_run 2 (S' := (2, [(0, vR (some a)), (1, vR (some b))], [vR (some a), vR (some a)], σ, 0, 0)) rfl ?_
  refine w_get (k := 20) (vI (σ.1 200000 a 0)) rfl rfl rfl hk rfl rfl ?_
  refine w_run 2 (S' := (7, [(0, vR (some a)), (1, vR (some b))], [vI ((σ.1 200000 a 0) + 1), vR (some a)], σ, 0, 0)) rfl ?_
  refine w_puti (k := 20) rfl rfl rfl hk rfl rfl (Or.inl rfl) (Or.inl rfl) ?_
  show WG _ _ _ _ _ _ _ (10, [(0, vR (some a)), (1, vR (some b))], [], sI σ 200000 a 0 ((σ.1 200000 a 0) + 1), 0, 0)
  refine w_run 3 (S' := (13, [(0, vR (some a)), (1, vR (some b))], [vR (some a), vR (some b), vR (some a)], sI σ 200000 a 0 ((σ.1 200000 a 0) + 1), 0, 0)) rfl ?_
  refine w_get (k := 20) (vR (σ.2.1 200100 a 0)) rfl rfl rfl hk rfl rfl ?_
  refine w_run 1 (S' := (17, [(0, vR (some a)), (1, vR (some b))], [vR (some a), vR (σ.2.1 200100 a 0), vR (some b), vR (some a)], sI σ 200000 a 0 ((σ.1 200000 a 0) + 1), 0, 0)) rfl ?_
  refine w_get (k := 20) (vI (σ.1 200200 a 0)) rfl rfl rfl hk rfl rfl ?_
  refine Eq.mp (congrArg (fun x9 => WG _ _ _ _ _ _ _ (20, [(0, vR (some a)), (1, vR (some b))], [vI x9, vR (σ.2.1 200100 a 0), vR (some b), vR (some a)], sI σ 200000 a 0 ((σ.1 200000 a 0) + 1), 0, 0)) (hs.symm : nI (lnK 41 σ ar) = σ.1 200200 a 0)) ?_
  show WG _ _ _ _ _ _ _ (20, [(0, vR (some a)), (1, vR (some b))], [vI (nI (lnK 41 σ ar)), vR (σ.2.1 200100 a 0), vR (some b), vR (some a)], sI σ 200000 a 0 ((σ.1 200000 a 0) + 1), 0, 0)
  refine Eq.mp (congrArg (fun x9 => WG _ _ _ _ _ _ _ (20, [(0, vR (some a)), (1, vR (some b))], [vI (nI (lnK 41 σ ar)), vR x9, vR (some b), vR (some a)], sI σ 200000 a 0 ((σ.1 200000 a 0) + 1), 0, 0)) (Eq.symm he : some ar = σ.2.1 200100 a 0)) ?_
  show WG _ _ _ _ _ _ _ (20, [(0, vR (some a)), (1, vR (some b))], [vI (nI (lnK 41 σ ar)), vR (some ar), vR (some b), vR (some a)], sI σ 200000 a 0 ((σ.1 200000 a 0) + 1), 0, 0)
  refine w_callV (st := []) [vR (some b), vR (some ar), vI (nI (lnK 41 σ ar))] rfl ml_9_131 rfl rfl hk rfl rfl rfl (by simp only [RM]; omega) (by simp only [RM]; show 8 + (4 + 11) + _ ≤ _; omega) rfl (by simp only [RM]; omega) (by simp only [RM]; omega) (c_al_add3m_20 l E (dd + 6) (sI σ 200000 a 0 (σ.1 200000 a 0 + 1)) a ar b dd (by omega) hk hka hb he hL1 hL2 hs) (fun _ _ h => h.elim) ?_
  intro r9 s9 q9
  obtain ⟨q, hq, hqe, e1, e2⟩ := q9
  rw [e1, e2]
  clear e1 e2 r9 s9
  show WG _ _ _ _ _ _ _ (23, [(0, vR (some a)), (1, vR (some b))], [], sI (sO (sO (sC (sA (sI σ 200000 a 0 (σ.1 200000 a 0 + 1)) q 41 (lnK 41 (sI σ 200000 a 0 (σ.1 200000 a 0 + 1)) ar + max (lnK 41 (sI σ 200000 a 0 (σ.1 200000 a 0 + 1)) ar + 1 - (lnK 41 (sI σ 200000 a 0 (σ.1 200000 a 0 + 1)) ar)) ((lnK 41 (sI σ 200000 a 0 (σ.1 200000 a 0 + 1)) ar) / 2))) 410005 q (va_cpy ((sI σ 200000 a 0 (σ.1 200000 a 0 + 1)).2.1 410005 ar) (fun _ => none) 0 0 (lnK 41 (sI σ 200000 a 0 (σ.1 200000 a 0 + 1)) ar))) 200100 a 0 (some q)) 410005 q (lnK 41 (sI σ 200000 a 0 (σ.1 200000 a 0 + 1)) ar) (some b)) 200200 a 0 (nI (lnK 41 (sI σ 200000 a 0 (σ.1 200000 a 0 + 1)) ar + 1)), 0 + 1, 0 + (lnK 41 (sI σ 200000 a 0 (σ.1 200000 a 0 + 1)) ar + max (lnK 41 (sI σ 200000 a 0 (σ.1 200000 a 0 + 1)) ar + 1 - (lnK 41 (sI σ 200000 a 0 (σ.1 200000 a 0 + 1)) ar)) ((lnK 41 (sI σ 200000 a 0 (σ.1 200000 a 0 + 1)) ar) / 2)))
  refine w_run 1 (S' := (24, [(0, vR (some a)), (1, vR (some b))], [vI 1], sI (sO (sO (sC (sA (sI σ 200000 a 0 (σ.1 200000 a 0 + 1)) q 41 (lnK 41 (sI σ 200000 a 0 (σ.1 200000 a 0 + 1)) ar + max (lnK 41 (sI σ 200000 a 0 (σ.1 200000 a 0 + 1)) ar + 1 - (lnK 41 (sI σ 200000 a 0 (σ.1 200000 a 0 + 1)) ar)) ((lnK 41 (sI σ 200000 a 0 (σ.1 200000 a 0 + 1)) ar) / 2))) 410005 q (va_cpy ((sI σ 200000 a 0 (σ.1 200000 a 0 + 1)).2.1 410005 ar) (fun _ => none) 0 0 (lnK 41 (sI σ 200000 a 0 (σ.1 200000 a 0 + 1)) ar))) 200100 a 0 (some q)) 410005 q (lnK 41 (sI σ 200000 a 0 (σ.1 200000 a 0 + 1)) ar) (some b)) 200200 a 0 (nI (lnK 41 (sI σ 200000 a 0 (σ.1 200000 a 0 + 1)) ar + 1)), 0 + 1, 0 + (lnK 41 (sI σ 200000 a 0 (σ.1 200000 a 0 + 1)) ar + max (lnK 41 (sI σ 200000 a 0 (σ.1 200000 a 0 + 1)) ar + 1 - (lnK 41 (sI σ 200000 a 0 (σ.1 200000 a 0 + 1)) ar)) ((lnK 41 (sI σ 200000 a 0 (σ.1 200000 a 0 + 1)) ar) / 2)))) rfl ?_
  exact w_iret rfl (Or.inr ⟨rfl, Or.inr rfl⟩) (by omega) (by omega) (⟨q, hq, hqe, rfl, rfl⟩)

set_option maxHeartbeats 4000000 in
theorem c_al_adde_20 (l : Launch) (E : FE) (d : Nat) (σ : Sg) (a b dd : Nat) (hd : dd + 4 ≤ d) (hk : σ.2.2.2 a = 20) (hb : σ.2.2.2 b = 5) (he : σ.2.1 200100 a 0 = some (fe E)) (hs : σ.1 200200 a 0 = nI 0) : CT l E d 204 [vR (some a), vR (some b)] σ 1 450 (fun r σ' => ∃ q, σ.2.2.2 q = 0 ∧ q ≠ fe E ∧ r = some (vI 1) ∧ σ' = sI (sO (sO (sA (sI σ 200000 a 0 (σ.1 200000 a 0 + 1)) q 41 10) 200100 a 0 (some q)) 410005 q 0 (some b)) 200200 a 0 (nI (0 + 1))) (fun _ _ => False) := by
  refine CTo ok_al_add (by decide +kernel) rfl rfl rfl ?_
  refine w_run 2 (S' := (2, [(0, vR (some a)), (1, vR (some b))], [vR (some a), vR (some a)], σ, 0, 0)) rfl ?_
  refine w_get (k := 20) (vI (σ.1 200000 a 0)) rfl rfl rfl hk rfl rfl ?_
  refine w_run 2 (S' := (7, [(0, vR (some a)), (1, vR (some b))], [vI ((σ.1 200000 a 0) + 1), vR (some a)], σ, 0, 0)) rfl ?_
  refine w_puti (k := 20) rfl rfl rfl hk rfl rfl (Or.inl rfl) (Or.inl rfl) ?_
  show WG _ _ _ _ _ _ _ (10, [(0, vR (some a)), (1, vR (some b))], [], sI σ 200000 a 0 ((σ.1 200000 a 0) + 1), 0, 0)
  refine w_run 3 (S' := (13, [(0, vR (some a)), (1, vR (some b))], [vR (some a), vR (some b), vR (some a)], sI σ 200000 a 0 ((σ.1 200000 a 0) + 1), 0, 0)) rfl ?_
  refine w_get (k := 20) (vR (σ.2.1 200100 a 0)) rfl rfl rfl hk rfl rfl ?_
  refine w_run 1 (S' := (17, [(0, vR (some a)), (1, vR (some b))], [vR (some a), vR (σ.2.1 200100 a 0), vR (some b), vR (some a)], sI σ 200000 a 0 ((σ.1 200000 a 0) + 1), 0, 0)) rfl ?_
  refine w_get (k := 20) (vI (σ.1 200200 a 0)) rfl rfl rfl hk rfl rfl ?_
  refine Eq.mp (congrArg (fun x9 => WG _ _ _ _ _ _ _ (20, [(0, vR (some a)), (1, vR (some b))], [vI x9, vR (σ.2.1 200100 a 0), vR (some b), vR (some a)], sI σ 200000 a 0 ((σ.1 200000 a 0) + 1), 0, 0)) (hs.symm : nI 0 = σ.1 200200 a 0)) ?_
  show WG _ _ _ _ _ _ _ (20, [(0, vR (some a)), (1, vR (some b))], [vI 0, vR (σ.2.1 200100 a 0), vR (some b), vR (some a)], sI σ 200000 a 0 ((σ.1 200000 a 0) + 1), 0, 0)
  refine Eq.mp (congrArg (fun x9 => WG _ _ _ _ _ _ _ (20, [(0, vR (some a)), (1, vR (some b))], [vI 0, vR x9, vR (some b), vR (some a)], sI σ 200000 a 0 ((σ.1 200000 a 0) + 1), 0, 0)) (Eq.symm he : some (fe E) = σ.2.1 200100 a 0)) ?_
  show WG _ _ _ _ _ _ _ (20, [(0, vR (some a)), (1, vR (some b))], [vI 0, vR (some (fe E)), vR (some b), vR (some a)], sI σ 200000 a 0 ((σ.1 200000 a 0) + 1), 0, 0)
  refine w_callV (st := []) [vR (some b), vR (some (fe E)), vI 0] rfl ml_9_131 rfl rfl hk rfl rfl rfl (by simp only [RM]; omega) (by simp only [RM]; show 8 + (4 + 11) + _ ≤ _; omega) rfl (by simp only [RM]; omega) (by simp only [RM]; omega) (c_al_add3e_20 l E (dd + 3) (sI σ 200000 a 0 (σ.1 200000 a 0 + 1)) a b dd (by omega) hk hb he hs) (fun _ _ h => h.elim) ?_
  intro r9 s9 q9
  obtain ⟨q, hq, hqe, e1, e2⟩ := q9
  rw [e1, e2]
  clear e1 e2 r9 s9
  show WG _ _ _ _ _ _ _ (23, [(0, vR (some a)), (1, vR (some b))], [], sI (sO (sO (sA (sI σ 200000 a 0 (σ.1 200000 a 0 + 1)) q 41 10) 200100 a 0 (some q)) 410005 q 0 (some b)) 200200 a 0 (nI (0 + 1)), 0 + 1, 0 + 10)
  refine w_run 1 (S' := (24, [(0, vR (some a)), (1, vR (some b))], [vI 1], sI (sO (sO (sA (sI σ 200000 a 0 (σ.1 200000 a 0 + 1)) q 41 10) 200100 a 0 (some q)) 410005 q 0 (some b)) 200200 a 0 (nI (0 + 1)), 0 + 1, 0 + 10)) rfl ?_
  exact w_iret rfl (Or.inr ⟨rfl, Or.inr rfl⟩) (by omega) (by omega) (⟨q, hq, hqe, rfl, rfl⟩)

set_option maxHeartbeats 4000000 in
theorem c_al_size_20 (l : Launch) (E : FE) (d : Nat) (σ : Sg) (a : Nat) (hk : σ.2.2.2 a = 20) : CT l E d 201 [vR (some a)] σ 0 0 (fun r σ' => r = some (vI (σ.1 200200 a 0)) ∧ σ' = σ) (fun _ _ => False) := by
  refine CTo ok_al_size (by decide +kernel) rfl rfl rfl ?_
  refine w_run 1 (S' := (1, [(0, vR (some a))], [vR (some a)], σ, 0, 0)) rfl ?_
  refine w_get (k := 20) (vI (σ.1 200200 a 0)) rfl rfl rfl hk rfl rfl ?_
  exact w_iret rfl (Or.inl rfl) (by omega) (by omega) (⟨rfl, rfl⟩)

set_option maxHeartbeats 4000000 in
theorem c_al_isEmpty_20 (l : Launch) (E : FE) (d : Nat) (σ : Sg) (a : Nat) (hk : σ.2.2.2 a = 20) : CT l E d 202 [vR (some a)] σ 0 0 (fun r σ' => r = some (vI (if σ.1 200200 a 0 = 0 then 1 else 0)) ∧ σ' = σ) (fun _ _ => False) := by
  refine CTo ok_al_isEmpty (by decide +kernel) rfl rfl rfl ?_
  refine w_run 1 (S' := (1, [(0, vR (some a))], [vR (some a)], σ, 0, 0)) rfl ?_
  refine w_get (k := 20) (vI (σ.1 200200 a 0)) rfl rfl rfl hk rfl rfl ?_
  refine w_if_ne rfl (fun c1 => ?_) (fun c1 => ?_)
  · refine w_run 1 (S' := (12, [(0, vR (some a))], [vI 0], σ, 0, 0)) rfl ?_
    exact w_iret rfl (Or.inr ⟨rfl, Or.inl rfl⟩) (by omega) (by omega) (⟨by simp [c1], rfl⟩)
  · refine w_run 2 (S' := (12, [(0, vR (some a))], [vI 1], σ, 0, 0)) rfl ?_
    exact w_iret rfl (Or.inr ⟨rfl, Or.inr rfl⟩) (by omega) (by omega) (⟨by simp [c1], rfl⟩)

set_option maxHeartbeats 4000000 in
theorem c_al_elementData_20 (l : Launch) (E : FE) (d : Nat) (σ : Sg) (a ar i : Nat) (hk : σ.2.2.2 a = 20) (hka : σ.2.2.2 ar = 41) (he : σ.2.1 200100 a 0 = some ar) (hi : i < lnK 41 σ ar) (hL2 : lnK 41 σ ar ≤ 300) : CT l E d 213 [vR (some a), vI (nI i)] σ 0 0 (fun r σ' => r = some (vR (σ.2.1 410005 ar i)) ∧ σ' = σ) (fun _ _ => False) := by
  refine CTo ok_al_elementData (by decide +kernel) rfl rfl rfl ?_
  refine w_run 1 (S' := (1, [(0, vR (some a)), (1, vI (nI i))], [vR (some a)], σ, 0, 0)) rfl ?_
  refine w_get (k := 20) (vR (σ.2.1 200100 a 0)) rfl rfl rfl hk rfl rfl ?_
  refine w_run 1 (S' := (5, [(0, vR (some a)), (1, vI (nI i))], [vI (nI i), vR (σ.2.1 200100 a 0)], σ, 0, 0)) rfl ?_
  refine w_aald (k := 41) rfl he hka rfl rfl (show vp_in (nI i) (lnK 41 σ ar) from vp_in_nI (by omega) (by omega)) ?_
  show WG _ _ _ _ _ _ _ (6, [(0, vR (some a)), (1, vI (nI i))], [vR (σ.2.1 410005 ar (nI i).toNatClampNeg)], σ, 0, 0)
  rw [show (nI i : Int32).toNatClampNeg = i from nI_clamp (n := i) (by omega)]
  show WG _ _ _ _ _ _ _ (6, [(0, vR (some a)), (1, vI (nI i))], [vR (σ.2.1 410005 ar i)], σ, 0, 0)
  exact w_aret rfl rfl (Or.inl ⟨_, rfl⟩) (by omega) (by omega) (⟨rfl, rfl⟩)

set_option maxHeartbeats 4000000 in
theorem c_al_get_20 (l : Launch) (E : FE) (d : Nat) (σ : Sg) (a ar i n dd : Nat) (hd : dd + 2 ≤ d) (hk : σ.2.2.2 a = 20) (hka : σ.2.2.2 ar = 41) (he : σ.2.1 200100 a 0 = some ar) (hs : σ.1 200200 a 0 = nI n) (hi : i < n) (hn : n ≤ lnK 41 σ ar) (hL2 : lnK 41 σ ar ≤ 300) : CT l E d 203 [vR (some a), vI (nI i)] σ 0 0 (fun r σ' => r = some (vR (σ.2.1 410005 ar i)) ∧ σ' = σ) (fun _ _ => False) := by
  refine CTo ok_al_get (by decide +kernel) rfl rfl rfl ?_
  refine w_run 2 (S' := (2, [(0, vR (some a)), (1, vI (nI i))], [vR (some a), vI (nI i)], σ, 0, 0)) rfl ?_
  refine w_get (k := 20) (vI (σ.1 200200 a 0)) rfl rfl rfl hk rfl rfl ?_
  refine Eq.mp (congrArg (fun x9 => WG _ _ _ _ _ _ _ (5, [(0, vR (some a)), (1, vI (nI i))], [vI x9, vI (nI i)], σ, 0, 0)) (hs.symm : nI n = σ.1 200200 a 0)) ?_
  show WG _ _ _ _ _ _ _ (5, [(0, vR (some a)), (1, vI (nI i))], [vI (nI n), vI (nI i)], σ, 0, 0)
  refine w_callT (st := []) [vI (nI i), vI (nI n)] rfl ml_9_118 rfl (by simp only [RM]; omega) (by simp only [RM]; show 8 + (2 + 11) + _ ≤ _; omega) rfl (by simp only [RM]; omega) (by simp only [RM]; omega) (c_ob_checkIndex l E (dd + 1) σ i n dd (by omega) hi (by omega)) (fun _ _ h => h.elim) ?_
  intro r9 s9 q9
  rw [q9.1, q9.2]
  clear q9 r9 s9
  show WG _ _ _ _ _ _ _ (8, [(0, vR (some a)), (1, vI (nI i))], [vI (nI i)], σ, 0, 0)
  refine w_run 3 (S' := (11, [(0, vR (some a)), (1, vI (nI i))], [vI (nI i), vR (some a)], σ, 0, 0)) rfl ?_
  refine w_callV (st := []) [vI (nI i)] rfl ml_9_123 rfl rfl hk rfl rfl rfl (by simp only [RM]; omega) (by simp only [RM]; show 8 + (2 + 11) + _ ≤ _; omega) rfl (by simp only [RM]; omega) (by simp only [RM]; omega) (c_al_elementData_20 l E dd σ a ar i hk hka he (by omega) hL2) (fun _ _ h => h.elim) ?_
  intro r9 s9 q9
  rw [q9.1, q9.2]
  clear q9 r9 s9
  show WG _ _ _ _ _ _ _ (14, [(0, vR (some a)), (1, vI (nI i))], [vR (σ.2.1 410005 ar i)], σ, 0, 0)
  exact w_aret rfl rfl (Or.inl ⟨_, rfl⟩) (by omega) (by omega) (⟨rfl, rfl⟩)

def rm_20 (σ : Sg) (a ar n i : Nat) : Sg := if n - 1 ≤ i then sO (sI (sI σ 200000 a 0 (σ.1 200000 a 0 + 1)) 200200 a 0 (nI (n - 1))) 410005 ar (n - 1) none else sO (sI (sC (sI σ 200000 a 0 (σ.1 200000 a 0 + 1)) 410005 ar (va_cpy (σ.2.1 410005 ar) (σ.2.1 410005 ar) (i + 1) i (n - 1 - i))) 200200 a 0 (nI (n - 1))) 410005 ar (n - 1) none
set_option maxHeartbeats 4000000 in
theorem c_al_fastRemove_20 (l : Launch) (E : FE) (d : Nat) (σ : Sg) (a ar i n : Nat) (hd : 1 ≤ d) (hk : σ.2.2.2 a = 20) (hka : σ.2.2.2 ar = 41) (hs : σ.1 200200 a 0 = nI n) (hi : i < n) (hn : n ≤ lnK 41 σ ar) (hL2 : lnK 41 σ ar ≤ 300) : CT l E d 221 [vR (some a), vR (some ar), vI (nI i)] σ 0 0 (fun r σ' => r = none ∧ σ' = rm_20 σ a ar n i) (fun _ _ => False) := by
  refine CTo ok_al_fastRemove (by decide +kernel) rfl rfl rfl ?_
  refine w_run 2 (S' := (2, [(0, vR (some a)), (1, vR (some ar)), (2, vI (nI i))], [vR (some a), vR (some a)], σ, 0, 0)) rfl ?_
  refine w_get (k := 20) (vI (σ.1 200000 a 0)) rfl rfl rfl hk rfl rfl ?_
  refine w_run 2 (S' := (7, [(0, vR (some a)), (1, vR (some ar)), (2, vI (nI i))], [vI ((σ.1 200000 a 0) + 1), vR (some a)], σ, 0, 0)) rfl ?_
  refine w_puti (k := 20) rfl rfl rfl hk rfl rfl (Or.inl rfl) (Or.inl rfl) ?_
  show WG _ _ _ _ _ _ _ (10, [(0, vR (some a)), (1, vR (some ar)), (2, vI (nI i))], [], sI σ 200000 a 0 ((σ.1 200000 a 0) + 1), 0, 0)
  refine w_run 1 (S' := (11, [(0, vR (some a)), (1, vR (some ar)), (2, vI (nI i))], [vR (some a)], sI σ 200000 a 0 ((σ.1 200000 a 0) + 1), 0, 0)) rfl ?_
  refine w_get (k := 20) (vI (σ.1 200200 a 0)) rfl rfl rfl hk rfl rfl ?_
  refine Eq.mp (congrArg (fun x9 => WG _ _ _ _ _ _ _ (14, [(0, vR (some a)), (1, vR (some ar)), (2, vI (nI i))], [vI x9], sI σ 200000 a 0 ((σ.1 200000 a 0) + 1), 0, 0)) (hs.symm : nI n = σ.1 200200 a 0)) ?_
  show WG _ _ _ _ _ _ _ (14, [(0, vR (some a)), (1, vR (some ar)), (2, vI (nI i))], [vI (nI n)], sI σ 200000 a 0 ((σ.1 200000 a 0) + 1), 0, 0)
  refine w_run 5 (S' := (19, [(3, vI ((nI n) - 1)), (0, vR (some a)), (1, vR (some ar)), (2, vI (nI i))], [vI (nI i), vI ((nI n) - 1)], sI σ 200000 a 0 ((σ.1 200000 a 0) + 1), 0, 0)) rfl ?_
  rw [show ((nI n) - 1 : Int32) = nI (n - 1) from nI_sub9 (a := n) (b := 1) (by omega)]
  show WG _ _ _ _ _ _ _ (19, [(3, vI (nI (n - 1))), (0, vR (some a)), (1, vR (some ar)), (2, vI (nI i))], [vI (nI i), vI (nI (n - 1))], sI σ 200000 a 0 ((σ.1 200000 a 0) + 1), 0, 0)
  refine w_ic_le rfl (fun c1 => ?_) (fun c1 => ?_)
  · have nc1 := (nI_leI (a := n - 1) (b := i) (by omega) (by omega)).mp c1
    refine w_run 4 (S' := (38, [(3, vI (nI (n - 1))), (0, vR (some a)), (1, vR (some ar)), (2, vI (nI i))], [vI (nI (n - 1)), vR (some a), vI (nI (n - 1)), vR (some ar)], sI σ 200000 a 0 ((σ.1 200000 a 0) + 1), 0, 0)) rfl ?_
    refine w_puti (k := 20) rfl rfl rfl hk rfl rfl (Or.inl rfl) (Or.inl rfl) ?_
    show WG _ _ _ _ _ _ _ (41, [(3, vI (nI (n - 1))), (0, vR (some a)), (1, vR (some ar)), (2, vI (nI i))], [vI (nI (n - 1)), vR (some ar)], sI (sI σ 200000 a 0 ((σ.1 200000 a 0) + 1)) 200200 a 0 (nI (n - 1)), 0, 0)
    refine w_run 1 (S' := (42, [(3, vI (nI (n - 1))), (0, vR (some a)), (1, vR (some ar)), (2, vI (nI i))], [vR none, vI (nI (n - 1)), vR (some ar)], sI (sI σ 200000 a 0 ((σ.1 200000 a 0) + 1)) 200200 a 0 (nI (n - 1)), 0, 0)) rfl ?_
    refine w_aastN (k := 41) rfl rfl hka rfl (by decide) rfl (show vp_in (nI (n - 1)) (lnK 41 σ ar) from vp_in_nI (by omega) (by omega)) ?_
    show WG _ _ _ _ _ _ _ (43, [(3, vI (nI (n - 1))), (0, vR (some a)), (1, vR (some ar)), (2, vI (nI i))], [], sO (sI (sI σ 200000 a 0 ((σ.1 200000 a 0) + 1)) 200200 a 0 (nI (n - 1))) 410005 ar ((nI (n - 1)).toNatClampNeg) none, 0, 0)
    rw [show (nI (n - 1) : Int32).toNatClampNeg = n - 1 from nI_clamp (n := n - 1) (by omega)]
    exact w_vret rfl rfl (by omega) (by omega) (⟨rfl, by simp [rm_20, nc1]⟩)
  · have nc1 := mt (nI_leI (a := n - 1) (b := i) (by omega) (by omega)).mpr c1
    refine w_run 9 (S' := (31, [(3, vI (nI (n - 1))), (0, vR (some a)), (1, vR (some ar)), (2, vI (nI i))], [vI ((nI (n - 1)) - (nI i)), vI (nI i), vR (some ar), vI ((nI i) + 1), vR (some ar)], sI σ 200000 a 0 ((σ.1 200000 a 0) + 1), 0, 0)) rfl ?_
    rw [show ((nI (n - 1)) - (nI i) : Int32) = nI (n - 1 - i) from nI_sub9 (a := n - 1) (b := i) (by omega)]
    rw [show ((nI i) + 1 : Int32) = nI (i + 1) from by simp only [nl0, nl1, nl2, nl3, nl4, nl5, nl6, nl8, nl9, nl10, nl12, nl15, nl16, nl20, nl24, nl32, nl40, nl64, nl65, nl384, pk_mul, nI_add]]
    show WG _ _ _ _ _ _ _ (31, [(3, vI (nI (n - 1))), (0, vR (some a)), (1, vR (some ar)), (2, vI (nI i))], [vI (nI (n - 1 - i)), vI (nI i), vR (some ar), vI (nI (i + 1)), vR (some ar)], sI σ 200000 a 0 ((σ.1 200000 a 0) + 1), 0, 0)
    refine w_copy (k := 41) rfl lk_cp9 rfl rfl hka hka (show AK 41 5 by unfold AK; decide) (nI_pos (by omega)) (nI_pos (by omega)) (nI_pos (by omega)) (by rw [nI_clamp (by omega), nI_clamp (by omega)]; show _ ≤ lnK 41 σ ar; omega) (by rw [nI_clamp (by omega), nI_clamp (by omega)]; show _ ≤ lnK 41 σ ar; omega) rfl (by simp only [RM]; omega) (by simp only [RM]; omega) ?_
    show WG _ _ _ _ _ _ _ (34, [(3, vI (nI (n - 1))), (0, vR (some a)), (1, vR (some ar)), (2, vI (nI i))], [], sC (sI σ 200000 a 0 ((σ.1 200000 a 0) + 1)) 410005 ar (va_cpy ((sI σ 200000 a 0 ((σ.1 200000 a 0) + 1)).2.1 410005 ar) ((sI σ 200000 a 0 ((σ.1 200000 a 0) + 1)).2.1 410005 ar) (nI (i + 1) : Int32).toNatClampNeg (nI i : Int32).toNatClampNeg (nI (n - 1 - i) : Int32).toNatClampNeg), 0, 0)
    rw [nI_clamp (n := i + 1) (by omega), nI_clamp (n := i) (by omega), nI_clamp (n := n - 1 - i) (by omega)]
    show WG _ _ _ _ _ _ _ (34, [(3, vI (nI (n - 1))), (0, vR (some a)), (1, vR (some ar)), (2, vI (nI i))], [], sC (sI σ 200000 a 0 (σ.1 200000 a 0 + 1)) 410005 ar (va_cpy (σ.2.1 410005 ar) (σ.2.1 410005 ar) (i + 1) i (n - 1 - i)), 0, 0)
    refine w_run 4 (S' := (38, [(3, vI (nI (n - 1))), (0, vR (some a)), (1, vR (some ar)), (2, vI (nI i))], [vI (nI (n - 1)), vR (some a), vI (nI (n - 1)), vR (some ar)], sC (sI σ 200000 a 0 (σ.1 200000 a 0 + 1)) 410005 ar (va_cpy (σ.2.1 410005 ar) (σ.2.1 410005 ar) (i + 1) i (n - 1 - i)), 0, 0)) rfl ?_
    refine w_puti (k := 20) rfl rfl rfl hk rfl rfl (Or.inl rfl) (Or.inl rfl) ?_
    show WG _ _ _ _ _ _ _ (41, [(3, vI (nI (n - 1))), (0, vR (some a)), (1, vR (some ar)), (2, vI (nI i))], [vI (nI (n - 1)), vR (some ar)], sI (sC (sI σ 200000 a 0 (σ.1 200000 a 0 + 1)) 410005 ar (va_cpy (σ.2.1 410005 ar) (σ.2.1 410005 ar) (i + 1) i (n - 1 - i))) 200200 a 0 (nI (n - 1)), 0, 0)
    refine w_run 1 (S' := (42, [(3, vI (nI (n - 1))), (0, vR (some a)), (1, vR (some ar)), (2, vI (nI i))], [vR none, vI (nI (n - 1)), vR (some ar)], sI (sC (sI σ 200000 a 0 (σ.1 200000 a 0 + 1)) 410005 ar (va_cpy (σ.2.1 410005 ar) (σ.2.1 410005 ar) (i + 1) i (n - 1 - i))) 200200 a 0 (nI (n - 1)), 0, 0)) rfl ?_
    refine w_aastN (k := 41) rfl rfl hka rfl (by decide) rfl (show vp_in (nI (n - 1)) (lnK 41 σ ar) from vp_in_nI (by omega) (by omega)) ?_
    show WG _ _ _ _ _ _ _ (43, [(3, vI (nI (n - 1))), (0, vR (some a)), (1, vR (some ar)), (2, vI (nI i))], [], sO (sI (sC (sI σ 200000 a 0 (σ.1 200000 a 0 + 1)) 410005 ar (va_cpy (σ.2.1 410005 ar) (σ.2.1 410005 ar) (i + 1) i (n - 1 - i))) 200200 a 0 (nI (n - 1))) 410005 ar ((nI (n - 1)).toNatClampNeg) none, 0, 0)
    rw [show (nI (n - 1) : Int32).toNatClampNeg = n - 1 from nI_clamp (n := n - 1) (by omega)]
    exact w_vret rfl rfl (by omega) (by omega) (⟨rfl, by simp [rm_20, nc1]⟩)

set_option maxHeartbeats 4000000 in
theorem c_al_remove_20 (l : Launch) (E : FE) (d : Nat) (σ : Sg) (a ar i n dd : Nat) (hd : dd + 2 ≤ d) (hk : σ.2.2.2 a = 20) (hka : σ.2.2.2 ar = 41) (he : σ.2.1 200100 a 0 = some ar) (hs : σ.1 200200 a 0 = nI n) (hi : i < n) (hn : n ≤ lnK 41 σ ar) (hL2 : lnK 41 σ ar ≤ 300) : CT l E d 205 [vR (some a), vI (nI i)] σ 0 0 (fun r σ' => r = some (vR (σ.2.1 410005 ar i)) ∧ σ' = rm_20 σ a ar n i) (fun _ _ => False) := by
  refine CTo ok_al_remove (by decide +kernel) rfl rfl rfl ?_
  refine w_run 2 (S' := (2, [(0, vR (some a)), (1, vI (nI i))], [vR (some a), vI (nI i)], σ, 0, 0)) rfl ?_
  refine w_get (k := 20) (vI (σ.1 200200 a 0)) rfl rfl rfl hk rfl rfl ?_
  refine Eq.mp (congrArg (fun x9 => WG _ _ _ _ _ _ _ (5, [(0, vR (some a)), (1, vI (nI i))], [vI x9, vI (nI i)], σ, 0, 0)) (hs.symm : nI n = σ.1 200200 a 0)) ?_
  show WG _ _ _ _ _ _ _ (5, [(0, vR (some a)), (1, vI (nI i))], [vI (nI n), vI (nI i)], σ, 0, 0)
  refine w_callT (st := []) [vI (nI i), vI (nI n)] rfl ml_9_118 rfl (by simp only [RM]; omega) (by simp only [RM]; show 8 + (2 + 11) + _ ≤ _; omega) rfl (by simp only [RM]; omega) (by simp only [RM]; omega) (c_ob_checkIndex l E (dd + 1) σ i n dd (by omega) hi (by omega)) (fun _ _ h => h.elim) ?_
  intro r9 s9 q9
  rw [q9.1, q9.2]
  clear q9 r9 s9
  show WG _ _ _ _ _ _ _ (8, [(0, vR (some a)), (1, vI (nI i))], [vI (nI i)], σ, 0, 0)
  refine w_run 2 (S' := (10, [(0, vR (some a)), (1, vI (nI i))], [vR (some a)], σ, 0, 0)) rfl ?_
  refine w_get (k := 20) (vR (σ.2.1 200100 a 0)) rfl rfl rfl hk rfl rfl ?_
  refine w_run 3 (S' := (16, [(2, vR (σ.2.1 200100 a 0)), (0, vR (some a)), (1, vI (nI i))], [vI (nI i), vR (σ.2.1 200100 a 0)], σ, 0, 0)) rfl ?_
  refine w_aald (k := 41) rfl he hka rfl rfl (show vp_in (nI i) (lnK 41 σ ar) from vp_in_nI (by omega) (by omega)) ?_
  show WG _ _ _ _ _ _ _ (17, [(2, vR (σ.2.1 200100 a 0)), (0, vR (some a)), (1, vI (nI i))], [vR (σ.2.1 410005 ar (nI i).toNatClampNeg)], σ, 0, 0)
  rw [show (nI i : Int32).toNatClampNeg = i from nI_clamp (n := i) (by omega)]
  show WG _ _ _ _ _ _ _ (17, [(2, vR (σ.2.1 200100 a 0)), (0, vR (some a)), (1, vI (nI i))], [vR (σ.2.1 410005 ar i)], σ, 0, 0)
  refine w_run 4 (S' := (21, [(3, vR (σ.2.1 410005 ar i)), (2, vR (σ.2.1 200100 a 0)), (0, vR (some a)), (1, vI (nI i))], [vI (nI i), vR (σ.2.1 200100 a 0), vR (some a)], σ, 0, 0)) rfl ?_
  refine Eq.mp (congrArg (fun x9 => WG _ _ _ _ _ _ _ (21, [(3, vR (σ.2.1 410005 ar i)), (2, vR (σ.2.1 200100 a 0)), (0, vR (some a)), (1, vI (nI i))], [vI (nI i), vR x9, vR (some a)], σ, 0, 0)) (Eq.symm he : some ar = σ.2.1 200100 a 0)) ?_
  show WG _ _ _ _ _ _ _ (21, [(3, vR (σ.2.1 410005 ar i)), (2, vR (σ.2.1 200100 a 0)), (0, vR (some a)), (1, vI (nI i))], [vI (nI i), vR (some ar), vR (some a)], σ, 0, 0)
  refine w_callV (st := []) [vR (some ar), vI (nI i)] rfl ml_9_144 rfl rfl hk rfl rfl rfl (by simp only [RM]; omega) (by simp only [RM]; show 8 + (4 + 11) + _ ≤ _; omega) rfl (by simp only [RM]; omega) (by simp only [RM]; omega) (c_al_fastRemove_20 l E (dd + 1) σ a ar i n (by omega) hk hka hs hi hn hL2) (fun _ _ h => h.elim) ?_
  intro r9 s9 q9
  rw [q9.1, q9.2]
  clear q9 r9 s9
  show WG _ _ _ _ _ _ _ (24, [(3, vR (σ.2.1 410005 ar i)), (2, vR (σ.2.1 200100 a 0)), (0, vR (some a)), (1, vI (nI i))], [], rm_20 σ a ar n i, 0, 0)
  refine w_run 1 (S' := (25, [(3, vR (σ.2.1 410005 ar i)), (2, vR (σ.2.1 200100 a 0)), (0, vR (some a)), (1, vI (nI i))], [vR (σ.2.1 410005 ar i)], rm_20 σ a ar n i, 0, 0)) rfl ?_
  exact w_aret rfl rfl (Or.inl ⟨_, rfl⟩) (by omega) (by omega) (⟨rfl, rfl⟩)

def clr_20 (ar : Nat) : Nat → Sg → Sg := fun i τ => sO τ 410005 ar i none
set_option maxHeartbeats 4000000 in
theorem lk_al_clear_20 (l : Launch) (E : FE) (d : Nat) (σ : Sg) (a ar n : Nat) (h300 : n ≤ 300) {mc ms cs sl : Nat} {args : Array Value} {XX : State → Prop} {QF : State → List Frame → State → Prop} (hcs : cs ≤ mc) (hsl : sl ≤ ms) : ∀ (k i : Nat), i + k = n → ∀ (τ : Sg), τ.2.2.2 ar = 41 → (n ≤ lnK 41 τ ar ∧ lnK 41 τ ar ≤ 300) → (∀ (τ' : Sg), τ' = itF (clr_20 ar) k i τ → τ'.2.2.2 ar = 41 → (n ≤ lnK 41 τ' ar ∧ lnK 41 τ' ar ≤ 300) → WG l E (RM d mc ms) 206 args XX QF (42, [(1, vR (some ar)), (2, vI (nI n)), (0, vR (some a))], [], τ', cs, sl)) →
    WG l E (RM d mc ms) 206 args XX QF (27, [(3, vI (nI i)), (1, vR (some ar)), (2, vI (nI n)), (0, vR (some a))], [], τ, cs, sl) := by
  intro k
  induction k with
  | zero =>
    intro i hi τ hka hl K
    refine w_run 2 (S' := (29, [(3, vI (nI i)), (1, vR (some ar)), (2, vI (nI n)), (0, vR (some a))], [vI (nI n), vI (nI i)], τ, cs, sl)) rfl ?_
    refine w_ic_ge rfl (fun c1 => ?_) (fun c1 => (absurd ((nI_leI (a := n) (b := i) (by omega) (by omega)).mpr (by omega)) c1))
    have nc1 := (nI_leI (a := n) (b := i) (by omega) (by omega)).mp c1
    refine w_lsP [1, 2, 3] ?_
    show WG _ _ _ _ _ _ _ (42, [(1, vR (some ar)), (2, vI (nI n)), (0, vR (some a))], [], τ, cs, sl)
    exact K τ rfl hka hl
  | succ k ih =>
    intro i hi τ hka hl K
    refine w_run 2 (S' := (29, [(3, vI (nI i)), (1, vR (some ar)), (2, vI (nI n)), (0, vR (some a))], [vI (nI n), vI (nI i)], τ, cs, sl)) rfl ?_
    refine w_ic_ge rfl (fun c1 => (absurd ((nI_leI (a := n) (b := i) (by omega) (by omega)).mp c1) (by omega))) (fun c1 => ?_)
    have nc1 := mt (nI_leI (a := n) (b := i) (by omega) (by omega)).mpr c1
    refine w_run 3 (S' := (35, [(3, vI (nI i)), (1, vR (some ar)), (2, vI (nI n)), (0, vR (some a))], [vR none, vI (nI i), vR (some ar)], τ, cs, sl)) rfl ?_
    refine w_aastN (k := 41) rfl rfl hka rfl (by decide) rfl (show vp_in (nI i) (lnK 41 τ ar) from vp_in_nI (by omega) (by omega)) ?_
    show WG _ _ _ _ _ _ _ (36, [(3, vI (nI i)), (1, vR (some ar)), (2, vI (nI n)), (0, vR (some a))], [], sO τ 410005 ar ((nI i).toNatClampNeg) none, cs, sl)
    rw [show (nI i : Int32).toNatClampNeg = i from nI_clamp (n := i) (by omega)]
    refine w_run 2 (S' := (27, [(3, vI ((nI i) + 1)), (1, vR (some ar)), (2, vI (nI n)), (0, vR (some a))], [], sO τ 410005 ar i none, cs, sl)) rfl ?_
    rw [show ((nI i) + 1 : Int32) = nI (i + 1) from by simp only [nl0, nl1, nl2, nl3, nl4, nl5, nl6, nl8, nl9, nl10, nl12, nl15, nl16, nl20, nl24, nl32, nl40, nl64, nl65, nl384, pk_mul, nI_add]]
    show WG _ _ _ _ _ _ _ (27, [(3, vI (nI (i + 1))), (1, vR (some ar)), (2, vI (nI n)), (0, vR (some a))], [], sO τ 410005 ar i none, cs, sl)
    exact ih (i + 1) (by omega) (sO τ 410005 ar i none) (hka) (hl) (fun τ' e9 q90 q91 => K τ' (by rw [itF_succ, ← (show ((sO τ 410005 ar i none) : Sg) = (clr_20 ar) i τ from by simp [clr_20, c1])]; exact e9) q90 q91)
set_option maxHeartbeats 4000000 in
theorem c_al_clear_20 (l : Launch) (E : FE) (d : Nat) (σ : Sg) (a ar n : Nat) (hk : σ.2.2.2 a = 20) (hka : σ.2.2.2 ar = 41) (he : σ.2.1 200100 a 0 = some ar) (hs : σ.1 200200 a 0 = nI n) (hn : n ≤ lnK 41 σ ar) (hL2 : lnK 41 σ ar ≤ 300) : CT l E d 206 [vR (some a)] σ 0 0 (fun r σ' => r = none ∧ σ' = itF (clr_20 ar) n 0 (sI (sI σ 200000 a 0 (σ.1 200000 a 0 + 1)) 200200 a 0 0)) (fun _ _ => False) := by
  refine CTo ok_al_clear (by decide +kernel) rfl rfl rfl ?_
  refine w_run 2 (S' := (2, [(0, vR (some a))], [vR (some a), vR (some a)], σ, 0, 0)) rfl ?_
  refine w_get (k := 20) (vI (σ.1 200000 a 0)) rfl rfl rfl hk rfl rfl ?_
  refine w_run 2 (S' := (7, [(0, vR (some a))], [vI ((σ.1 200000 a 0) + 1), vR (some a)], σ, 0, 0)) rfl ?_
  refine w_puti (k := 20) rfl rfl rfl hk rfl rfl (Or.inl rfl) (Or.inl rfl) ?_
  show WG _ _ _ _ _ _ _ (10, [(0, vR (some a))], [], sI σ 200000 a 0 ((σ.1 200000 a 0) + 1), 0, 0)
  refine w_run 1 (S' := (11, [(0, vR (some a))], [vR (some a)], sI σ 200000 a 0 ((σ.1 200000 a 0) + 1), 0, 0)) rfl ?_
  refine w_get (k := 20) (vR (σ.2.1 200100 a 0)) rfl rfl rfl hk rfl rfl ?_
  refine w_run 2 (S' := (16, [(1, vR (σ.2.1 200100 a 0)), (0, vR (some a))], [vR (some a)], sI σ 200000 a 0 ((σ.1 200000 a 0) + 1), 0, 0)) rfl ?_
  refine w_get (k := 20) (vI (σ.1 200200 a 0)) rfl rfl rfl hk rfl rfl ?_
  refine Eq.mp (congrArg (fun x9 => WG _ _ _ _ _ _ _ (19, [(1, vR (σ.2.1 200100 a 0)), (0, vR (some a))], [vI x9], sI σ 200000 a 0 ((σ.1 200000 a 0) + 1), 0, 0)) (hs.symm : nI n = σ.1 200200 a 0)) ?_
  show WG _ _ _ _ _ _ _ (19, [(1, vR (σ.2.1 200100 a 0)), (0, vR (some a))], [vI (nI n)], sI σ 200000 a 0 ((σ.1 200000 a 0) + 1), 0, 0)
  refine w_run 4 (S' := (23, [(2, vI (nI n)), (1, vR (σ.2.1 200100 a 0)), (0, vR (some a))], [vI 0, vR (some a), vI 0], sI σ 200000 a 0 ((σ.1 200000 a 0) + 1), 0, 0)) rfl ?_
  refine w_puti (k := 20) rfl rfl rfl hk rfl rfl (Or.inl rfl) (Or.inl rfl) ?_
  show WG _ _ _ _ _ _ _ (26, [(2, vI (nI n)), (1, vR (σ.2.1 200100 a 0)), (0, vR (some a))], [vI 0], sI (sI σ 200000 a 0 ((σ.1 200000 a 0) + 1)) 200200 a 0 0, 0, 0)
  refine w_run 1 (S' := (27, [(3, vI 0), (2, vI (nI n)), (1, vR (σ.2.1 200100 a 0)), (0, vR (some a))], [], sI (sI σ 200000 a 0 ((σ.1 200000 a 0) + 1)) 200200 a 0 0, 0, 0)) rfl ?_
  refine Eq.mp (congrArg (fun x9 => WG _ _ _ _ _ _ _ (27, [(3, vI 0), (2, vI (nI n)), (1, vR x9), (0, vR (some a))], [], sI (sI σ 200000 a 0 ((σ.1 200000 a 0) + 1)) 200200 a 0 0, 0, 0)) (Eq.symm he : some ar = σ.2.1 200100 a 0)) ?_
  show WG _ _ _ _ _ _ _ (27, [(3, vI 0), (2, vI (nI n)), (1, vR (some ar)), (0, vR (some a))], [], sI (sI σ 200000 a 0 ((σ.1 200000 a 0) + 1)) 200200 a 0 0, 0, 0)
  refine w_lsP [0, 2, 1, 3] ?_
  show WG _ _ _ _ _ _ _ (27, [(3, vI 0), (1, vR (some ar)), (2, vI (nI n)), (0, vR (some a))], [], sI (sI σ 200000 a 0 ((σ.1 200000 a 0) + 1)) 200200 a 0 0, 0, 0)
  refine lk_al_clear_20 l E d σ a ar n (by omega) (Nat.le_refl _) (Nat.le_refl _) n 0 (by omega) (sI (sI σ 200000 a 0 (σ.1 200000 a 0 + 1)) 200200 a 0 0) hka ⟨hn, hL2⟩ (fun τ1 e1 _ _ => ?_)
  show WG _ _ _ _ _ _ _ (42, [(1, vR (some ar)), (2, vI (nI n)), (0, vR (some a))], [], τ1, 0, 0)
  exact w_vret rfl rfl (by omega) (by omega) (⟨rfl, e1⟩)

set_option maxHeartbeats 4000000 in
theorem c_al_clearE_20 (l : Launch) (E : FE) (d : Nat) (σ : Sg) (a : Nat) (hk : σ.2.2.2 a = 20) (he : σ.2.1 200100 a 0 = some (fe E)) (hs : σ.1 200200 a 0 = nI 0) : CT l E d 206 [vR (some a)] σ 0 0 (fun r σ' => r = none ∧ σ' = sI (sI σ 200000 a 0 (σ.1 200000 a 0 + 1)) 200200 a 0 0) (fun _ _ => False) := by
  refine CTo ok_al_clear (by decide +kernel) rfl rfl rfl ?_
  refine w_run 2 (S' := (2, [(0, vR (some a))], [vR (some a), vR (some a)], σ, 0, 0)) rfl ?_
  refine w_get (k := 20) (vI (σ.1 200000 a 0)) rfl rfl rfl hk rfl rfl ?_
  refine w_run 2 (S' := (7, [(0, vR (some a))], [vI ((σ.1 200000 a 0) + 1), vR (some a)], σ, 0, 0)) rfl ?_
  refine w_puti (k := 20) rfl rfl rfl hk rfl rfl (Or.inl rfl) (Or.inl rfl) ?_
  show WG _ _ _ _ _ _ _ (10, [(0, vR (some a))], [], sI σ 200000 a 0 ((σ.1 200000 a 0) + 1), 0, 0)
  refine w_run 1 (S' := (11, [(0, vR (some a))], [vR (some a)], sI σ 200000 a 0 ((σ.1 200000 a 0) + 1), 0, 0)) rfl ?_
  refine w_get (k := 20) (vR (σ.2.1 200100 a 0)) rfl rfl rfl hk rfl rfl ?_
  refine w_run 2 (S' := (16, [(1, vR (σ.2.1 200100 a 0)), (0, vR (some a))], [vR (some a)], sI σ 200000 a 0 ((σ.1 200000 a 0) + 1), 0, 0)) rfl ?_
  refine w_get (k := 20) (vI (σ.1 200200 a 0)) rfl rfl rfl hk rfl rfl ?_
  refine Eq.mp (congrArg (fun x9 => WG _ _ _ _ _ _ _ (19, [(1, vR (σ.2.1 200100 a 0)), (0, vR (some a))], [vI x9], sI σ 200000 a 0 ((σ.1 200000 a 0) + 1), 0, 0)) (hs.symm : nI 0 = σ.1 200200 a 0)) ?_
  show WG _ _ _ _ _ _ _ (19, [(1, vR (σ.2.1 200100 a 0)), (0, vR (some a))], [vI 0], sI σ 200000 a 0 ((σ.1 200000 a 0) + 1), 0, 0)
  refine w_run 4 (S' := (23, [(2, vI 0), (1, vR (σ.2.1 200100 a 0)), (0, vR (some a))], [vI 0, vR (some a), vI 0], sI σ 200000 a 0 ((σ.1 200000 a 0) + 1), 0, 0)) rfl ?_
  refine w_puti (k := 20) rfl rfl rfl hk rfl rfl (Or.inl rfl) (Or.inl rfl) ?_
  show WG _ _ _ _ _ _ _ (26, [(2, vI 0), (1, vR (σ.2.1 200100 a 0)), (0, vR (some a))], [vI 0], sI (sI σ 200000 a 0 ((σ.1 200000 a 0) + 1)) 200200 a 0 0, 0, 0)
  refine w_run 3 (S' := (29, [(3, vI 0), (2, vI 0), (1, vR (σ.2.1 200100 a 0)), (0, vR (some a))], [vI 0, vI 0], sI (sI σ 200000 a 0 ((σ.1 200000 a 0) + 1)) 200200 a 0 0, 0, 0)) rfl ?_
  refine w_ic_ge rfl (fun c1 => ?_) (fun c1 => (absurd ((nI_leI (a := 0) (b := 0) (by omega) (by omega)).mpr (by omega)) c1))
  have nc1 := (nI_leI (a := 0) (b := 0) (by omega) (by omega)).mp c1
  exact w_vret rfl rfl (by omega) (by omega) (⟨rfl, rfl⟩)

set_option maxHeartbeats 4000000 in
theorem c_ac_init_20 (l : Launch) (E : FE) (d : Nat) (σ : Sg) (a : Nat) (hd : 1 ≤ d) : CT l E d 210 [vR (some a)] σ 0 0 (fun r σ' => r = none ∧ σ' = σ) (fun _ _ => False) := by
  refine CTo ok_ac_init (by decide +kernel) rfl rfl rfl ?_
  refine w_run 1 (S' := (1, [(0, vR (some a))], [vR (some a)], σ, 0, 0)) rfl ?_
  refine w_objI rfl mo_13_1 rfl rfl (by simp only [RM]; omega) (by simp only [RM]; omega) ?_
  exact w_vret rfl rfl (by omega) (by omega) (⟨rfl, rfl⟩)

set_option maxHeartbeats 4000000 in
theorem c_ab_init_20 (l : Launch) (E : FE) (d : Nat) (σ : Sg) (a dd : Nat) (hd : dd + 2 ≤ d) (hk : σ.2.2.2 a = 20) : CT l E d 209 [vR (some a)] σ 0 0 (fun r σ' => r = none ∧ σ' = sI σ 200000 a 0 0) (fun _ _ => False) := by
  refine CTo ok_ab_init (by decide +kernel) rfl rfl rfl ?_
  refine w_run 1 (S' := (1, [(0, vR (some a))], [vR (some a)], σ, 0, 0)) rfl ?_
  refine w_callI (st := []) [] rfl ml_12_1 rfl rfl (by simp only [RM]; omega) (by simp only [RM]; show 8 + (1 + 11) + _ ≤ _; omega) rfl (by simp only [RM]; omega) (by simp only [RM]; omega) (c_ac_init_20 l E (dd + 1) σ a (by omega)) ?_
  intro r9 s9 q9
  rw [q9.1, q9.2]
  clear q9 r9 s9
  show WG _ _ _ _ _ _ _ (4, [(0, vR (some a))], [], σ, 0, 0)
  refine w_run 2 (S' := (6, [(0, vR (some a))], [vI 0, vR (some a)], σ, 0, 0)) rfl ?_
  refine w_puti (k := 20) rfl rfl rfl hk rfl rfl (Or.inl rfl) (Or.inl rfl) ?_
  show WG _ _ _ _ _ _ _ (9, [(0, vR (some a))], [], sI σ 200000 a 0 0, 0, 0)
  exact w_vret rfl rfl (by omega) (by omega) (⟨rfl, rfl⟩)

set_option maxHeartbeats 4000000 in
theorem c_al_init_20 (l : Launch) (E : FE) (d : Nat) (σ : Sg) (a dd : Nat) (hd : dd + 3 ≤ d) (hk : σ.2.2.2 a = 20) : CT l E d 200 [vR (some a)] σ 0 0 (fun r σ' => r = none ∧ σ' = sO (sI σ 200000 a 0 0) 200100 a 0 (some (fe E))) (fun _ _ => False) := by
  refine CTo ok_al_init (by decide +kernel) rfl rfl rfl ?_
  refine w_run 1 (S' := (1, [(0, vR (some a))], [vR (some a)], σ, 0, 0)) rfl ?_
  refine w_callI (st := []) [] rfl ml_9_1 rfl rfl (by simp only [RM]; omega) (by simp only [RM]; show 8 + (1 + 11) + _ ≤ _; omega) rfl (by simp only [RM]; omega) (by simp only [RM]; omega) (c_ab_init_20 l E (dd + 2) σ a dd (by omega) hk) ?_
  intro r9 s9 q9
  rw [q9.1, q9.2]
  clear q9 r9 s9
  show WG _ _ _ _ _ _ _ (4, [(0, vR (some a))], [], sI σ 200000 a 0 0, 0, 0)
  refine w_run 1 (S' := (5, [(0, vR (some a))], [vR (some a)], sI σ 200000 a 0 0, 0, 0)) rfl ?_
  refine w_getsE rfl lk_empty ?_
  refine w_putr (k := 20) rfl rfl rfl hk rfl rfl (fun _ _ h9 => absurd rfl h9) rfl (Or.inl rfl) ?_
  show WG _ _ _ _ _ _ _ (11, [(0, vR (some a))], [], sO (sI σ 200000 a 0 0) 200100 a 0 (some (fe E)), 0, 0)
  exact w_vret rfl rfl (by omega) (by omega) (⟨rfl, rfl⟩)

set_option maxHeartbeats 4000000 in
theorem c_ay_copyOf3_21 (l : Launch) (E : FE) (d : Nat) (σ : Sg) (ar N : Nat) (hd : 1 ≤ d) (hk : σ.2.2.2 ar = 42) (hL : lnK 42 σ ar ≤ N) (hN : N ≤ 100000) : CT l E d 219 [vR (some ar), vI (nI N), vR (some (fm E))] σ 1 N (fun r σ' => ∃ q, σ.2.2.2 q = 0 ∧ q ≠ fe E ∧ r = some (vR (some q)) ∧ σ' = sC (sA σ q 42 N) 420006 q (va_cpy (σ.2.1 420006 ar) (fun _ => none) 0 0 (lnK 42 σ ar))) (fun _ _ => False) := by
  refine CTo ok_ay_copyOf3 (by decide +kernel) rfl rfl rfl ?_
  refine w_run 1 (S' := (1, [(0, vR (some ar)), (1, vI (nI N)), (2, vR (some (fm E)))], [vR (some (fm E))], σ, 0, 0)) rfl ?_
  refine w_ldcM rfl lk_mir ?_
  refine w_ac_ne rfl (fun c1 => (absurd rfl c1)) (fun c1 => ?_)
  refine w_run 1 (S' := (7, [(0, vR (some ar)), (1, vI (nI N)), (2, vR (some (fm E)))], [vI (nI N)], σ, 0, 0)) rfl ?_
  refine w_newqO (k := 42) (N := N) rfl lk_obj17 (show AK 42 6 by unfold AK; decide) rfl (by omega) (by simp only [RM]; omega) (by simp only [RM]; omega) (fun q hq hqe => ?_)
  have hn_ar : ar ≠ q := ne0 (hk) hq (by decide)
  have hk_ar : (sA σ q 42 N).2.2.2 ar = 42 := by simp only [sA, sI, sN]; rw [if_neg hn_ar]; exact hk
  have hkq : (sA σ q 42 N).2.2.2 q = 42 := by simp [sA, sI, sN]
  show WG _ _ _ _ _ _ _ (10, [(0, vR (some ar)), (1, vI (nI N)), (2, vR (some (fm E)))], [vR (some q)], sA σ q 42 N, 0 + 1, 0 + N)
  refine w_run 7 (S' := (30, [(3, vR (some q)), (0, vR (some ar)), (1, vI (nI N)), (2, vR (some (fm E)))], [vR (some ar), vI 0, vR (some q), vI 0, vR (some ar)], sA σ q 42 N, 0 + 1, 0 + N)) rfl ?_
  refine w_len (k := 42) rfl rfl hk_ar (show AK 42 6 by unfold AK; decide) ?_
  show WG _ _ _ _ _ _ _ (31, [(3, vR (some q)), (0, vR (some ar)), (1, vI (nI N)), (2, vR (some (fm E)))], [vI (nI (lnK 42 (sA σ q 42 N) ar)), vI 0, vR (some q), vI 0, vR (some ar)], sA σ q 42 N, 0 + 1, 0 + N)
  refine w_run 1 (S' := (32, [(3, vR (some q)), (0, vR (some ar)), (1, vI (nI N)), (2, vR (some (fm E)))], [vI (nI N), vI (nI (lnK 42 (sA σ q 42 N) ar)), vI 0, vR (some q), vI 0, vR (some ar)], sA σ q 42 N, 0 + 1, 0 + N)) rfl ?_
  refine w_min rfl lk_min rfl (by simp only [RM]; omega) (by simp only [RM]; omega) (by simp only [RM]; omega) (by simp only [RM]; omega) ?_
  rw [show (if nI N < nI (lnK 42 (sA σ q 42 N) ar) then nI N else nI (lnK 42 (sA σ q 42 N) ar) : Int32) = nI (lnK 42 σ ar) from (by rw [sA_len _ hn_ar, if_neg (nI_nlt hL (by omega))])]
  show WG _ _ _ _ _ _ _ (35, [(3, vR (some q)), (0, vR (some ar)), (1, vI (nI N)), (2, vR (some (fm E)))], [vI (nI (lnK 42 σ ar)), vI 0, vR (some q), vI 0, vR (some ar)], sA σ q 42 N, 0 + 1, 0 + N)
  refine w_copy (k := 42) rfl lk_cp17 rfl rfl hk_ar hkq (show AK 42 6 by unfold AK; decide) (by decide) (by decide) (nI_pos (by omega)) (by rw [cl0, nI_clamp (n := lnK 42 σ ar) (by omega), sA_len _ hn_ar]; omega) (by rw [cl0, nI_clamp (n := lnK 42 σ ar) (by omega), sA_lenq (by omega)]; omega) rfl (by simp only [RM]; omega) (by simp only [RM]; omega) ?_
  show WG _ _ _ _ _ _ _ (38, [(3, vR (some q)), (0, vR (some ar)), (1, vI (nI N)), (2, vR (some (fm E)))], [], sC (sA σ q 42 N) 420006 q (va_cpy ((sA σ q 42 N).2.1 420006 ar) ((sA σ q 42 N).2.1 420006 q) (0 : Int32).toNatClampNeg (0 : Int32).toNatClampNeg (nI (lnK 42 σ ar) : Int32).toNatClampNeg), 0 + 1, 0 + N)
  rw [sA_O hn_ar, sA_Oq, cl0, nI_clamp (n := lnK 42 σ ar) (by omega)]
  show WG _ _ _ _ _ _ _ (38, [(3, vR (some q)), (0, vR (some ar)), (1, vI (nI N)), (2, vR (some (fm E)))], [], sC (sA σ q 42 N) 420006 q (va_cpy (σ.2.1 420006 ar) (fun _ => none) 0 0 (lnK 42 σ ar)), 0 + 1, 0 + N)
  refine w_run 1 (S' := (39, [(3, vR (some q)), (0, vR (some ar)), (1, vI (nI N)), (2, vR (some (fm E)))], [vR (some q)], sC (sA σ q 42 N) 420006 q (va_cpy (σ.2.1 420006 ar) (fun _ => none) 0 0 (lnK 42 σ ar)), 0 + 1, 0 + N)) rfl ?_
  exact w_aret rfl rfl (Or.inr ⟨_, rfl⟩) (by omega) (by omega) (⟨q, hq, hqe, rfl, rfl⟩)

set_option maxHeartbeats 4000000 in
theorem c_ay_copyOf_21 (l : Launch) (E : FE) (d : Nat) (σ : Sg) (ar N dd : Nat) (hd : dd + 2 ≤ d) (hk : σ.2.2.2 ar = 42) (hL : lnK 42 σ ar ≤ N) (hN : N ≤ 100000) : CT l E d 218 [vR (some ar), vI (nI N)] σ 1 N (fun r σ' => ∃ q, σ.2.2.2 q = 0 ∧ q ≠ fe E ∧ r = some (vR (some q)) ∧ σ' = sC (sA σ q 42 N) 420006 q (va_cpy (σ.2.1 420006 ar) (fun _ => none) 0 0 (lnK 42 σ ar))) (fun _ _ => False) := by
  refine CTo ok_ay_copyOf (by decide +kernel) rfl rfl rfl ?_
  refine w_run 3 (S' := (3, [(0, vR (some ar)), (1, vI (nI N))], [vR (some ar), vI (nI N), vR (some ar)], σ, 0, 0)) rfl ?_
  refine w_getC (k := 42) rfl lk_gc rfl hk (show AK 42 6 by unfold AK; decide) rfl (by simp only [RM]; omega) (by simp only [RM]; omega) ?_
  refine w_callS (st := []) [vR (some ar), vI (nI N), vR (some (fm E))] rfl ml_17_300 rfl (by simp only [RM]; omega) (by simp only [RM]; show 8 + (4 + 11) + _ ≤ _; omega) rfl (by simp only [RM]; omega) (by simp only [RM]; omega) (c_ay_copyOf3_21 l E (dd + 1) σ ar N (by omega) hk hL hN) (fun _ _ h => h.elim) ?_
  intro r9 s9 q9
  obtain ⟨q, hq, hqe, e1, e2⟩ := q9
  rw [e1, e2]
  clear e1 e2 r9 s9
  show WG _ _ _ _ _ _ _ (9, [(0, vR (some ar)), (1, vI (nI N))], [vR (some q)], sC (sA σ q 42 N) 420006 q (va_cpy (σ.2.1 420006 ar) (fun _ => none) 0 0 (lnK 42 σ ar)), 0 + 1, 0 + N)
  exact w_aret rfl rfl (Or.inr ⟨_, rfl⟩) (by omega) (by omega) (⟨q, hq, hqe, rfl, rfl⟩)

set_option maxHeartbeats 4000000 in
theorem c_al_grow_21 (l : Launch) (E : FE) (d : Nat) (σ : Sg) (a ar dd : Nat) (hd : dd + 4 ≤ d) (hk : σ.2.2.2 a = 21) (hka : σ.2.2.2 ar = 42) (he : σ.2.1 210100 a 0 = some ar) (hL1 : 1 ≤ lnK 42 σ ar) (hL2 : lnK 42 σ ar ≤ 300) : CT l E d 216 [vR (some a), vI (nI (lnK 42 σ ar + 1))] σ 1 (lnK 42 σ ar + max (lnK 42 σ ar + 1 - (lnK 42 σ ar)) ((lnK 42 σ ar) / 2)) (fun r σ' => ∃ q, σ.2.2.2 q = 0 ∧ q ≠ fe E ∧ r = some (vR (some q)) ∧ σ' = sO (sC (sA σ q 42 (lnK 42 σ ar + max (lnK 42 σ ar + 1 - (lnK 42 σ ar)) ((lnK 42 σ ar) / 2))) 420006 q (va_cpy (σ.2.1 420006 ar) (fun _ => none) 0 0 (lnK 42 σ ar))) 210100 a 0 (some q)) (fun _ _ => False) := by
  refine CTo ok_al_grow (by decide +kernel) rfl rfl rfl ?_
  refine w_run 1 (S' := (1, [(0, vR (some a)), (1, vI (nI (lnK 42 σ ar + 1)))], [vR (some a)], σ, 0, 0)) rfl ?_
  refine w_get (k := 21) (vR (σ.2.1 210100 a 0)) rfl rfl rfl hk rfl rfl ?_
  refine w_len (k := 42) rfl he hka (show AK 42 6 by unfold AK; decide) ?_
  show WG _ _ _ _ _ _ _ (5, [(0, vR (some a)), (1, vI (nI (lnK 42 σ ar + 1)))], [vI (nI (lnK 42 σ ar))], σ, 0, 0)
  refine w_run 2 (S' := (7, [(2, vI (nI (lnK 42 σ ar))), (0, vR (some a)), (1, vI (nI (lnK 42 σ ar + 1)))], [vI (nI (lnK 42 σ ar))], σ, 0, 0)) rfl ?_
  refine w_if_gt rfl (fun c1 => ?_) (fun c1 => (absurd ((nI_ltI (a := 0) (b := lnK 42 σ ar) (by omega) (by omega)).mpr (by omega)) c1))
  have nc1 := (nI_ltI (a := 0) (b := lnK 42 σ ar) (by omega) (by omega)).mp c1
  refine w_run 7 (S' := (27, [(2, vI (nI (lnK 42 σ ar))), (0, vR (some a)), (1, vI (nI (lnK 42 σ ar + 1)))], [vI ((nI (lnK 42 σ ar)) >>> (1 &&& 31)), vI ((nI (lnK 42 σ ar + 1)) - (nI (lnK 42 σ ar))), vI (nI (lnK 42 σ ar))], σ, 0, 0)) rfl ?_
  rw [show ((nI (lnK 42 σ ar)) >>> (1 &&& 31) : Int32) = nI ((lnK 42 σ ar) / 2) from ishr1 (by omega)]
  rw [show ((nI (lnK 42 σ ar + 1)) - (nI (lnK 42 σ ar)) : Int32) = nI (lnK 42 σ ar + 1 - (lnK 42 σ ar)) from nI_sub9 (a := lnK 42 σ ar + 1) (b := lnK 42 σ ar) (by omega)]
  show WG _ _ _ _ _ _ _ (27, [(2, vI (nI (lnK 42 σ ar))), (0, vR (some a)), (1, vI (nI (lnK 42 σ ar + 1)))], [vI (nI ((lnK 42 σ ar) / 2)), vI (nI (lnK 42 σ ar + 1 - (lnK 42 σ ar))), vI (nI (lnK 42 σ ar))], σ, 0, 0)
  refine w_callT (st := []) [vI (nI (lnK 42 σ ar)), vI (nI (lnK 42 σ ar + 1 - (lnK 42 σ ar))), vI (nI ((lnK 42 σ ar) / 2))] rfl ml_9_73 rfl (by simp only [RM]; omega) (by simp only [RM]; show 8 + (4 + 11) + _ ≤ _; omega) rfl (by simp only [RM]; omega) (by simp only [RM]; omega) (c_as_newLength l E (dd + 1) σ (lnK 42 σ ar) (lnK 42 σ ar + 1 - (lnK 42 σ ar)) ((lnK 42 σ ar) / 2) (by omega) (by omega) (by omega) (by omega) (by omega)) (fun _ _ h => h.elim) ?_
  intro r9 s9 q9
  rw [q9.1, q9.2]
  clear q9 r9 s9
  show WG _ _ _ _ _ _ _ (30, [(2, vI (nI (lnK 42 σ ar))), (0, vR (some a)), (1, vI (nI (lnK 42 σ ar + 1)))], [vI (nI (lnK 42 σ ar + max (lnK 42 σ ar + 1 - (lnK 42 σ ar)) ((lnK 42 σ ar) / 2)))], σ, 0, 0)
  refine w_run 3 (S' := (33, [(3, vI (nI (lnK 42 σ ar + max (lnK 42 σ ar + 1 - (lnK 42 σ ar)) ((lnK 42 σ ar) / 2)))), (2, vI (nI (lnK 42 σ ar))), (0, vR (some a)), (1, vI (nI (lnK 42 σ ar + 1)))], [vR (some a), vR (some a)], σ, 0, 0)) rfl ?_
  refine w_get (k := 21) (vR (σ.2.1 210100 a 0)) rfl rfl rfl hk rfl rfl ?_
  refine w_run 1 (S' := (37, [(3, vI (nI (lnK 42 σ ar + max (lnK 42 σ ar + 1 - (lnK 42 σ ar)) ((lnK 42 σ ar) / 2)))), (2, vI (nI (lnK 42 σ ar))), (0, vR (some a)), (1, vI (nI (lnK 42 σ ar + 1)))], [vI (nI (lnK 42 σ ar + max (lnK 42 σ ar + 1 - (lnK 42 σ ar)) ((lnK 42 σ ar) / 2))), vR (σ.2.1 210100 a 0), vR (some a)], σ, 0, 0)) rfl ?_
  refine Eq.mp (congrArg (fun x9 => WG _ _ _ _ _ _ _ (37, [(3, vI (nI (lnK 42 σ ar + max (lnK 42 σ ar + 1 - (lnK 42 σ ar)) ((lnK 42 σ ar) / 2)))), (2, vI (nI (lnK 42 σ ar))), (0, vR (some a)), (1, vI (nI (lnK 42 σ ar + 1)))], [vI (nI (lnK 42 σ ar + max (lnK 42 σ ar + 1 - (lnK 42 σ ar)) ((lnK 42 σ ar) / 2))), vR x9, vR (some a)], σ, 0, 0)) (Eq.symm he : some ar = σ.2.1 210100 a 0)) ?_
  show WG _ _ _ _ _ _ _ (37, [(3, vI (nI (lnK 42 σ ar + max (lnK 42 σ ar + 1 - (lnK 42 σ ar)) ((lnK 42 σ ar) / 2)))), (2, vI (nI (lnK 42 σ ar))), (0, vR (some a)), (1, vI (nI (lnK 42 σ ar + 1)))], [vI (nI (lnK 42 σ ar + max (lnK 42 σ ar + 1 - (lnK 42 σ ar)) ((lnK 42 σ ar) / 2))), vR (some ar), vR (some a)], σ, 0, 0)
  refine w_callT (st := [vR (some a)]) [vR (some ar), vI (nI (lnK 42 σ ar + max (lnK 42 σ ar + 1 - (lnK 42 σ ar)) ((lnK 42 σ ar) / 2)))] rfl ml_9_66 rfl (by simp only [RM]; omega) (by simp only [RM]; show 8 + (2 + 11) + _ ≤ _; omega) rfl (by simp only [RM]; omega) (by simp only [RM]; omega) (c_ay_copyOf_21 l E (dd + 2) σ ar (lnK 42 σ ar + max (lnK 42 σ ar + 1 - (lnK 42 σ ar)) ((lnK 42 σ ar) / 2)) dd (by omega) hka (by omega) (by omega)) (fun _ _ h => h.elim) ?_
  intro r9 s9 q9
  obtain ⟨q, hq, hqe, e1, e2⟩ := q9
  rw [e1, e2]
  clear e1 e2 r9 s9
  have hn_a : a ≠ q := ne0 (hk) hq (by decide)
  have hk_a : (sC (sA σ q 42 (lnK 42 σ ar + max (lnK 42 σ ar + 1 - (lnK 42 σ ar)) ((lnK 42 σ ar) / 2))) 420006 q (va_cpy (σ.2.1 420006 ar) (fun _ => none) 0 0 (lnK 42 σ ar))).2.2.2 a = 21 := by show (if a = q then _ else _) = _; rw [if_neg hn_a]; exact hk
  show WG _ _ _ _ _ _ _ (40, [(3, vI (nI (lnK 42 σ ar + max (lnK 42 σ ar + 1 - (lnK 42 σ ar)) ((lnK 42 σ ar) / 2)))), (2, vI (nI (lnK 42 σ ar))), (0, vR (some a)), (1, vI (nI (lnK 42 σ ar + 1)))], [vR (some q), vR (some a)], sC (sA σ q 42 (lnK 42 σ ar + max (lnK 42 σ ar + 1 - (lnK 42 σ ar)) ((lnK 42 σ ar) / 2))) 420006 q (va_cpy (σ.2.1 420006 ar) (fun _ => none) 0 0 (lnK 42 σ ar)), 0 + 1, 0 + (lnK 42 σ ar + max (lnK 42 σ ar + 1 - (lnK 42 σ ar)) ((lnK 42 σ ar) / 2)))
  refine w_run 1 (S' := (41, [(3, vI (nI (lnK 42 σ ar + max (lnK 42 σ ar + 1 - (lnK 42 σ ar)) ((lnK 42 σ ar) / 2)))), (2, vI (nI (lnK 42 σ ar))), (0, vR (some a)), (1, vI (nI (lnK 42 σ ar + 1)))], [vR (some q), vR (some a), vR (some q)], sC (sA σ q 42 (lnK 42 σ ar + max (lnK 42 σ ar + 1 - (lnK 42 σ ar)) ((lnK 42 σ ar) / 2))) 420006 q (va_cpy (σ.2.1 420006 ar) (fun _ => none) 0 0 (lnK 42 σ ar)), 0 + 1, 0 + (lnK 42 σ ar + max (lnK 42 σ ar + 1 - (lnK 42 σ ar)) ((lnK 42 σ ar) / 2)))) rfl ?_
  refine w_putr (k := 21) rfl rfl rfl hk_a rfl rfl (fun _ _ h9 => absurd rfl h9) rfl (Or.inl rfl) ?_
  show WG _ _ _ _ _ _ _ (44, [(3, vI (nI (lnK 42 σ ar + max (lnK 42 σ ar + 1 - (lnK 42 σ ar)) ((lnK 42 σ ar) / 2)))), (2, vI (nI (lnK 42 σ ar))), (0, vR (some a)), (1, vI (nI (lnK 42 σ ar + 1)))], [vR (some q)], sO (sC (sA σ q 42 (lnK 42 σ ar + max (lnK 42 σ ar + 1 - (lnK 42 σ ar)) ((lnK 42 σ ar) / 2))) 420006 q (va_cpy (σ.2.1 420006 ar) (fun _ => none) 0 0 (lnK 42 σ ar))) 210100 a 0 (some q), 0 + 1, 0 + (lnK 42 σ ar + max (lnK 42 σ ar + 1 - (lnK 42 σ ar)) ((lnK 42 σ ar) / 2)))
  exact w_aret rfl rfl (Or.inr ⟨_, rfl⟩) (by omega) (by omega) (⟨q, hq, hqe, rfl, rfl⟩)

set_option maxHeartbeats 4000000 in
theorem c_al_growE_21 (l : Launch) (E : FE) (d : Nat) (σ : Sg) (a : Nat) (hd : 1 ≤ d) (hk : σ.2.2.2 a = 21) (he : σ.2.1 210100 a 0 = some (fe E)) : CT l E d 216 [vR (some a), vI 1] σ 1 10 (fun r σ' => ∃ q, σ.2.2.2 q = 0 ∧ q ≠ fe E ∧ r = some (vR (some q)) ∧ σ' = sO (sA σ q 42 10) 210100 a 0 (some q)) (fun _ _ => False) := by
  refine CTo ok_al_grow (by decide +kernel) rfl rfl rfl ?_
  refine w_run 1 (S' := (1, [(0, vR (some a)), (1, vI 1)], [vR (some a)], σ, 0, 0)) rfl ?_
  refine w_get (k := 21) (vR (σ.2.1 210100 a 0)) rfl rfl rfl hk rfl rfl ?_
  refine w_lenE rfl he ?_
  show WG _ _ _ _ _ _ _ (5, [(0, vR (some a)), (1, vI 1)], [vI 0], σ, 0, 0)
  refine w_run 2 (S' := (7, [(2, vI 0), (0, vR (some a)), (1, vI 1)], [vI 0], σ, 0, 0)) rfl ?_
  refine w_if_gt rfl (fun c1 => (absurd ((nI_ltI (a := 0) (b := 0) (by omega) (by omega)).mp c1) (by omega))) (fun c1 => ?_)
  have nc1 := mt (nI_ltI (a := 0) (b := 0) (by omega) (by omega)).mpr c1
  refine w_run 1 (S' := (11, [(2, vI 0), (0, vR (some a)), (1, vI 1)], [vR (some a)], σ, 0, 0)) rfl ?_
  refine w_get (k := 21) (vR (σ.2.1 210100 a 0)) rfl rfl rfl hk rfl rfl ?_
  refine w_getsE rfl lk_empty ?_
  refine w_ac_eq rfl (fun c2 => ?_) (fun c2 => (absurd he c2))
  refine w_run 3 (S' := (49, [(2, vI 0), (0, vR (some a)), (1, vI 1)], [vI 1, vI 10, vR (some a)], σ, 0, 0)) rfl ?_
  refine w_max rfl mx_9_79 rfl (by simp only [RM]; omega) (by simp only [RM]; omega) (by simp only [RM]; omega) (by simp only [RM]; omega) ?_
  refine w_newqO (k := 42) (N := 10) rfl lk_obj9 (show AK 42 6 by unfold AK; decide) (by decide) (by omega) (by simp only [RM]; omega) (by simp only [RM]; omega) (fun q hq hqe => ?_)
  have hn_a : a ≠ q := ne0 (hk) hq (by decide)
  have hk_a : (sA σ q 42 10).2.2.2 a = 21 := by simp only [sA, sI, sN]; rw [if_neg hn_a]; exact hk
  have hkq : (sA σ q 42 10).2.2.2 q = 42 := by simp [sA, sI, sN]
  show WG _ _ _ _ _ _ _ (55, [(2, vI 0), (0, vR (some a)), (1, vI 1)], [vR (some q), vR (some a)], sA σ q 42 10, 0 + 1, 0 + 10)
  refine w_run 1 (S' := (56, [(2, vI 0), (0, vR (some a)), (1, vI 1)], [vR (some q), vR (some a), vR (some q)], sA σ q 42 10, 0 + 1, 0 + 10)) rfl ?_
  refine w_putr (k := 21) rfl rfl rfl hk_a rfl rfl (fun _ _ h9 => absurd rfl h9) rfl (Or.inl rfl) ?_
  show WG _ _ _ _ _ _ _ (59, [(2, vI 0), (0, vR (some a)), (1, vI 1)], [vR (some q)], sO (sA σ q 42 10) 210100 a 0 (some q), 0 + 1, 0 + 10)
  exact w_aret rfl rfl (Or.inr ⟨_, rfl⟩) (by omega) (by omega) (⟨q, hq, hqe, rfl, rfl⟩)

set_option maxHeartbeats 4000000 in
theorem c_al_grow0_21 (l : Launch) (E : FE) (d : Nat) (σ : Sg) (a ar dd : Nat) (hd : dd + 5 ≤ d) (hk : σ.2.2.2 a = 21) (hka : σ.2.2.2 ar = 42) (he : σ.2.1 210100 a 0 = some ar) (hL1 : 1 ≤ lnK 42 σ ar) (hL2 : lnK 42 σ ar ≤ 300) (hs : σ.1 210200 a 0 = nI (lnK 42 σ ar)) : CT l E d 215 [vR (some a)] σ 1 (lnK 42 σ ar + max (lnK 42 σ ar + 1 - (lnK 42 σ ar)) ((lnK 42 σ ar) / 2)) (fun r σ' => ∃ q, σ.2.2.2 q = 0 ∧ q ≠ fe E ∧ r = some (vR (some q)) ∧ σ' = sO (sC (sA σ q 42 (lnK 42 σ ar + max (lnK 42 σ ar + 1 - (lnK 42 σ ar)) ((lnK 42 σ ar) / 2))) 420006 q (va_cpy (σ.2.1 420006 ar) (fun _ => none) 0 0 (lnK 42 σ ar))) 210100 a 0 (some q)) (fun _ _ => False) := by
  refine CTo ok_al_grow0 (by decide +kernel) rfl rfl rfl ?_
  refine w_run 2 (S' := (2, [(0, vR (some a))], [vR (some a), vR (some a)], σ, 0, 0)) rfl ?_
  refine w_get (k := 21) (vI (σ.1 210200 a 0)) rfl rfl rfl hk rfl rfl ?_
  refine Eq.mp (congrArg (fun x9 => WG _ _ _ _ _ _ _ (5, [(0, vR (some a))], [vI x9, vR (some a)], σ, 0, 0)) (hs.symm : nI (lnK 42 σ ar) = σ.1 210200 a 0)) ?_
  show WG _ _ _ _ _ _ _ (5, [(0, vR (some a))], [vI (nI (lnK 42 σ ar)), vR (some a)], σ, 0, 0)
  refine w_run 2 (S' := (7, [(0, vR (some a))], [vI ((nI (lnK 42 σ ar)) + 1), vR (some a)], σ, 0, 0)) rfl ?_
  rw [show ((nI (lnK 42 σ ar)) + 1 : Int32) = nI (lnK 42 σ ar + 1) from by simp only [nl0, nl1, nl2, nl3, nl4, nl5, nl6, nl8, nl9, nl10, nl12, nl15, nl16, nl20, nl24, nl32, nl40, nl64, nl65, nl384, pk_mul, nI_add]]
  show WG _ _ _ _ _ _ _ (7, [(0, vR (some a))], [vI (nI (lnK 42 σ ar + 1)), vR (some a)], σ, 0, 0)
  refine w_callV (st := []) [vI (nI (lnK 42 σ ar + 1))] rfl ml_9_69 rfl rfl hk rfl rfl rfl (by simp only [RM]; omega) (by simp only [RM]; show 8 + (4 + 11) + _ ≤ _; omega) rfl (by simp only [RM]; omega) (by simp only [RM]; omega) (c_al_grow_21 l E (dd + 4) σ a ar dd (by omega) hk hka he hL1 hL2) (fun _ _ h => h.elim) ?_
  intro r9 s9 q9
  obtain ⟨q, hq, hqe, e1, e2⟩ := q9
  rw [e1, e2]
  clear e1 e2 r9 s9
  show WG _ _ _ _ _ _ _ (10, [(0, vR (some a))], [vR (some q)], sO (sC (sA σ q 42 (lnK 42 σ ar + max (lnK 42 σ ar + 1 - (lnK 42 σ ar)) ((lnK 42 σ ar) / 2))) 420006 q (va_cpy (σ.2.1 420006 ar) (fun _ => none) 0 0 (lnK 42 σ ar))) 210100 a 0 (some q), 0 + 1, 0 + (lnK 42 σ ar + max (lnK 42 σ ar + 1 - (lnK 42 σ ar)) ((lnK 42 σ ar) / 2)))
  exact w_aret rfl rfl (Or.inr ⟨_, rfl⟩) (by omega) (by omega) (⟨q, hq, hqe, rfl, rfl⟩)

set_option maxHeartbeats 4000000 in
theorem c_al_grow0E_21 (l : Launch) (E : FE) (d : Nat) (σ : Sg) (a dd : Nat) (hd : dd + 2 ≤ d) (hk : σ.2.2.2 a = 21) (he : σ.2.1 210100 a 0 = some (fe E)) (hs : σ.1 210200 a 0 = nI 0) : CT l E d 215 [vR (some a)] σ 1 10 (fun r σ' => ∃ q, σ.2.2.2 q = 0 ∧ q ≠ fe E ∧ r = some (vR (some q)) ∧ σ' = sO (sA σ q 42 10) 210100 a 0 (some q)) (fun _ _ => False) := by
  refine CTo ok_al_grow0 (by decide +kernel) rfl rfl rfl ?_
  refine w_run 2 (S' := (2, [(0, vR (some a))], [vR (some a), vR (some a)], σ, 0, 0)) rfl ?_
  refine w_get (k := 21) (vI (σ.1 210200 a 0)) rfl rfl rfl hk rfl rfl ?_
  refine Eq.mp (congrArg (fun x9 => WG _ _ _ _ _ _ _ (5, [(0, vR (some a))], [vI x9, vR (some a)], σ, 0, 0)) (hs.symm : nI 0 = σ.1 210200 a 0)) ?_
  show WG _ _ _ _ _ _ _ (5, [(0, vR (some a))], [vI 0, vR (some a)], σ, 0, 0)
  refine w_run 2 (S' := (7, [(0, vR (some a))], [vI (0 + 1), vR (some a)], σ, 0, 0)) rfl ?_
  rw [show (0 + 1 : Int32) = nI (0 + 1) from by simp only [nl0, nl1, nl2, nl3, nl4, nl5, nl6, nl8, nl9, nl10, nl12, nl15, nl16, nl20, nl24, nl32, nl40, nl64, nl65, nl384, pk_mul, nI_add]]
  show WG _ _ _ _ _ _ _ (7, [(0, vR (some a))], [vI (nI (0 + 1)), vR (some a)], σ, 0, 0)
  refine w_callV (st := []) [vI (nI (0 + 1))] rfl ml_9_69 rfl rfl hk rfl rfl rfl (by simp only [RM]; omega) (by simp only [RM]; show 8 + (4 + 11) + _ ≤ _; omega) rfl (by simp only [RM]; omega) (by simp only [RM]; omega) (c_al_growE_21 l E (dd + 1) σ a (by omega) hk he) (fun _ _ h => h.elim) ?_
  intro r9 s9 q9
  obtain ⟨q, hq, hqe, e1, e2⟩ := q9
  rw [e1, e2]
  clear e1 e2 r9 s9
  show WG _ _ _ _ _ _ _ (10, [(0, vR (some a))], [vR (some q)], sO (sA σ q 42 10) 210100 a 0 (some q), 0 + 1, 0 + 10)
  exact w_aret rfl rfl (Or.inr ⟨_, rfl⟩) (by omega) (by omega) (⟨q, hq, hqe, rfl, rfl⟩)

set_option maxHeartbeats 4000000 in
theorem c_al_add3r_21 (l : Launch) (E : FE) (d : Nat) (σ : Sg) (a ar b n : Nat) (hk : σ.2.2.2 a = 21) (hka : σ.2.2.2 ar = 42) (hb : σ.2.2.2 b = 6) (hn : n < lnK 42 σ ar) (hL2 : lnK 42 σ ar ≤ 300) : CT l E d 214 [vR (some a), vR (some b), vR (some ar), vI (nI n)] σ 0 0 (fun r σ' => r = none ∧ σ' = sI (sO σ 420006 ar n (some b)) 210200 a 0 (nI (n + 1))) (fun _ _ => False) := by
  refine CTo ok_al_add3 (by decide +kernel) rfl rfl rfl ?_
  refine w_run 2 (S' := (2, [(0, vR (some a)), (1, vR (some b)), (2, vR (some ar)), (3, vI (nI n))], [vR (some ar), vI (nI n)], σ, 0, 0)) rfl ?_
  refine w_len (k := 42) rfl rfl hka (show AK 42 6 by unfold AK; decide) ?_
  show WG _ _ _ _ _ _ _ (3, [(0, vR (some a)), (1, vR (some b)), (2, vR (some ar)), (3, vI (nI n))], [vI (nI (lnK 42 σ ar)), vI (nI n)], σ, 0, 0)
  refine w_ic_ne rfl (fun c1 => ?_) (fun c1 => (absurd ((nI_eq (a := n) (b := lnK 42 σ ar) (by omega) (by omega)).mp c1) (by omega)))
  have nc1 := mt (nI_eq (a := n) (b := lnK 42 σ ar) (by omega) (by omega)).mpr c1
  refine w_run 3 (S' := (14, [(0, vR (some a)), (1, vR (some b)), (2, vR (some ar)), (3, vI (nI n))], [vR (some b), vI (nI n), vR (some ar)], σ, 0, 0)) rfl ?_
  refine w_aastM (k := 42) rfl rfl hka (show AK 42 6 by unfold AK; decide) rfl hb (show vp_in (nI n) (lnK 42 σ ar) from vp_in_nI (by omega) (by omega)) ?_
  show WG _ _ _ _ _ _ _ (15, [(0, vR (some a)), (1, vR (some b)), (2, vR (some ar)), (3, vI (nI n))], [], sO σ 420006 ar ((nI n).toNatClampNeg) (some b), 0, 0)
  rw [show (nI n : Int32).toNatClampNeg = n from nI_clamp (n := n) (by omega)]
  refine w_run 4 (S' := (19, [(0, vR (some a)), (1, vR (some b)), (2, vR (some ar)), (3, vI (nI n))], [vI ((nI n) + 1), vR (some a)], sO σ 420006 ar n (some b), 0, 0)) rfl ?_
  rw [show ((nI n) + 1 : Int32) = nI (n + 1) from by simp only [nl0, nl1, nl2, nl3, nl4, nl5, nl6, nl8, nl9, nl10, nl12, nl15, nl16, nl20, nl24, nl32, nl40, nl64, nl65, nl384, pk_mul, nI_add]]
  show WG _ _ _ _ _ _ _ (19, [(0, vR (some a)), (1, vR (some b)), (2, vR (some ar)), (3, vI (nI n))], [vI (nI (n + 1)), vR (some a)], sO σ 420006 ar n (some b), 0, 0)
  refine w_puti (k := 21) rfl rfl rfl hk rfl rfl (Or.inl rfl) (Or.inl rfl) ?_
  show WG _ _ _ _ _ _ _ (22, [(0, vR (some a)), (1, vR (some b)), (2, vR (some ar)), (3, vI (nI n))], [], sI (sO σ 420006 ar n (some b)) 210200 a 0 (nI (n + 1)), 0, 0)
  exact w_vret rfl rfl (by omega) (by omega) (⟨rfl, rfl⟩)

set_option maxHeartbeats 4000000 in
theorem c_al_add3m_21 (l : Launch) (E : FE) (d : Nat) (σ : Sg) (a ar b dd : Nat) (hd : dd + 6 ≤ d) (hk : σ.2.2.2 a = 21) (hka : σ.2.2.2 ar = 42) (hb : σ.2.2.2 b = 6) (he : σ.2.1 210100 a 0 = some ar) (hL1 : 1 ≤ lnK 42 σ ar) (hL2 : lnK 42 σ ar ≤ 300) (hs : σ.1 210200 a 0 = nI (lnK 42 σ ar)) : CT l E d 214 [vR (some a), vR (some b), vR (some ar), vI (nI (lnK 42 σ ar))] σ 1 (lnK 42 σ ar + max (lnK 42 σ ar + 1 - (lnK 42 σ ar)) ((lnK 42 σ ar) / 2)) (fun r σ' => ∃ q, σ.2.2.2 q = 0 ∧ q ≠ fe E ∧ r = none ∧ σ' = sI (sO (sO (sC (sA σ q 42 (lnK 42 σ ar + max (lnK 42 σ ar + 1 - (lnK 42 σ ar)) ((lnK 42 σ ar) / 2))) 420006 q (va_cpy (σ.2.1 420006 ar) (fun _ => none) 0 0 (lnK 42 σ ar))) 210100 a 0 (some q)) 420006 q (lnK 42 σ ar) (some b)) 210200 a 0 (nI (lnK 42 σ ar + 1))) (fun _ _ => False) := by
  refine CTo ok_al_add3 (by decide +kernel) rfl rfl rfl ?_
  refine w_run 2 (S' := (2, [(0, vR (some a)), (1, vR (some b)), (2, vR (some ar)), (3, vI (nI (lnK 42 σ ar)))], [vR (some ar), vI (nI (lnK 42 σ ar))], σ, 0, 0)) rfl ?_
  refine w_len (k := 42) rfl rfl hka (show AK 42 6 by unfold AK; decide) ?_
  show WG _ _ _ _ _ _ _ (3, [(0, vR (some a)), (1, vR (some b)), (2, vR (some ar)), (3, vI (nI (lnK 42 σ ar)))], [vI (nI (lnK 42 σ ar)), vI (nI (lnK 42 σ ar))], σ, 0, 0)
  refine w_ic_ne rfl (fun c1 => (absurd ((nI_eq (a := lnK 42 σ ar) (b := lnK 42 σ ar) (by omega) (by omega)).mpr (by omega)) c1)) (fun c1 => ?_)
  have nc1 := (nI_eq (a := lnK 42 σ ar) (b := lnK 42 σ ar) (by omega) (by omega)).mp c1
  refine w_run 1 (S' := (7, [(0, vR (some a)), (1, vR (some b)), (2, vR (some ar)), (3, vI (nI (lnK 42 σ ar)))], [vR (some a)], σ, 0, 0)) rfl ?_
  refine w_callV (st := []) [] rfl ml_9_129 rfl rfl hk rfl rfl rfl (by simp only [RM]; omega) (by simp only [RM]; show 8 + (1 + 11) + _ ≤ _; omega) rfl (by simp only [RM]; omega) (by simp only [RM]; omega) (c_al_grow0_21 l E (dd + 5) σ a ar dd (by omega) hk hka he hL1 hL2 hs) (fun _ _ h => h.elim) ?_
  intro r9 s9 q9
  obtain ⟨q, hq, hqe, e1, e2⟩ := q9
  rw [e1, e2]
  clear e1 e2 r9 s9
  have hn_a : a ≠ q := ne0 (hk) hq (by decide)
  have hk_a : (sO (sC (sA σ q 42 (lnK 42 σ ar + max (lnK 42 σ ar + 1 - (lnK 42 σ ar)) ((lnK 42 σ ar) / 2))) 420006 q (va_cpy (σ.2.1 420006 ar) (fun _ => none) 0 0 (lnK 42 σ ar))) 210100 a 0 (some q)).2.2.2 a = 21 := by show (if a = q then _ else _) = _; rw [if_neg hn_a]; exact hk
  have hn_b : b ≠ q := ne0 (hb) hq (by decide)
  have hk_b : (sO (sC (sA σ q 42 (lnK 42 σ ar + max (lnK 42 σ ar + 1 - (lnK 42 σ ar)) ((lnK 42 σ ar) / 2))) 420006 q (va_cpy (σ.2.1 420006 ar) (fun _ => none) 0 0 (lnK 42 σ ar))) 210100 a 0 (some q)).2.2.2 b = 6 := by show (if b = q then _ else _) = _; rw [if_neg hn_b]; exact hb
  have hkq : (sO (sC (sA σ q 42 (lnK 42 σ ar + max (lnK 42 σ ar + 1 - (lnK 42 σ ar)) ((lnK 42 σ ar) / 2))) 420006 q (va_cpy (σ.2.1 420006 ar) (fun _ => none) 0 0 (lnK 42 σ ar))) 210100 a 0 (some q)).2.2.2 q = 42 := by show (if q = q then _ else _) = _; rw [if_pos rfl]
  have hlq : lnK 42 (sO (sC (sA σ q 42 (lnK 42 σ ar + max (lnK 42 σ ar + 1 - (lnK 42 σ ar)) ((lnK 42 σ ar) / 2))) 420006 q (va_cpy (σ.2.1 420006 ar) (fun _ => none) 0 0 (lnK 42 σ ar))) 210100 a 0 (some q)) q = (lnK 42 σ ar + max (lnK 42 σ ar + 1 - (lnK 42 σ ar)) ((lnK 42 σ ar) / 2)) := sA_lenq (k := 42) (by omega)
  show WG _ _ _ _ _ _ _ (10, [(0, vR (some a)), (1, vR (some b)), (2, vR (some ar)), (3, vI (nI (lnK 42 σ ar)))], [vR (some q)], sO (sC (sA σ q 42 (lnK 42 σ ar + max (lnK 42 σ ar + 1 - (lnK 42 σ ar)) ((lnK 42 σ ar) / 2))) 420006 q (va_cpy (σ.2.1 420006 ar) (fun _ => none) 0 0 (lnK 42 σ ar))) 210100 a 0 (some q), 0 + 1, 0 + (lnK 42 σ ar + max (lnK 42 σ ar + 1 - (lnK 42 σ ar)) ((lnK 42 σ ar) / 2)))
  refine w_run 4 (S' := (14, [(2, vR (some q)), (0, vR (some a)), (1, vR (some b)), (3, vI (nI (lnK 42 σ ar)))], [vR (some b), vI (nI (lnK 42 σ ar)), vR (some q)], sO (sC (sA σ q 42 (lnK 42 σ ar + max (lnK 42 σ ar + 1 - (lnK 42 σ ar)) ((lnK 42 σ ar) / 2))) 420006 q (va_cpy (σ.2.1 420006 ar) (fun _ => none) 0 0 (lnK 42 σ ar))) 210100 a 0 (some q), 0 + 1, 0 + (lnK 42 σ ar + max (lnK 42 σ ar + 1 - (lnK 42 σ ar)) ((lnK 42 σ ar) / 2)))) rfl ?_
  refine w_aastM (k := 42) rfl rfl hkq (show AK 42 6 by unfold AK; decide) rfl hk_b (show vp_in (nI (lnK 42 σ ar)) (lnK 42 (sO (sC (sA σ q 42 (lnK 42 σ ar + max (lnK 42 σ ar + 1 - (lnK 42 σ ar)) ((lnK 42 σ ar) / 2))) 420006 q (va_cpy (σ.2.1 420006 ar) (fun _ => none) 0 0 (lnK 42 σ ar))) 210100 a 0 (some q)) q) from vp_in_nI (by rw [hlq]; omega) (by rw [hlq]; omega)) ?_
  show WG _ _ _ _ _ _ _ (15, [(2, vR (some q)), (0, vR (some a)), (1, vR (some b)), (3, vI (nI (lnK 42 σ ar)))], [], sO (sO (sC (sA σ q 42 (lnK 42 σ ar + max (lnK 42 σ ar + 1 - (lnK 42 σ ar)) ((lnK 42 σ ar) / 2))) 420006 q (va_cpy (σ.2.1 420006 ar) (fun _ => none) 0 0 (lnK 42 σ ar))) 210100 a 0 (some q)) 420006 q ((nI (lnK 42 σ ar)).toNatClampNeg) (some b), 0 + 1, 0 + (lnK 42 σ ar + max (lnK 42 σ ar + 1 - (lnK 42 σ ar)) ((lnK 42 σ ar) / 2)))
  rw [show (nI (lnK 42 σ ar) : Int32).toNatClampNeg = lnK 42 σ ar from nI_clamp (n := lnK 42 σ ar) (by omega)]
  refine w_run 4 (S' := (19, [(2, vR (some q)), (0, vR (some a)), (1, vR (some b)), (3, vI (nI (lnK 42 σ ar)))], [vI ((nI (lnK 42 σ ar)) + 1), vR (some a)], sO (sO (sC (sA σ q 42 (lnK 42 σ ar + max (lnK 42 σ ar + 1 - (lnK 42 σ ar)) ((lnK 42 σ ar) / 2))) 420006 q (va_cpy (σ.2.1 420006 ar) (fun _ => none) 0 0 (lnK 42 σ ar))) 210100 a 0 (some q)) 420006 q (lnK 42 σ ar) (some b), 0 + 1, 0 + (lnK 42 σ ar + max (lnK 42 σ ar + 1 - (lnK 42 σ ar)) ((lnK 42 σ ar) / 2)))) rfl ?_
  rw [show ((nI (lnK 42 σ ar)) + 1 : Int32) = nI (lnK 42 σ ar + 1) from by simp only [nl0, nl1, nl2, nl3, nl4, nl5, nl6, nl8, nl9, nl10, nl12, nl15, nl16, nl20, nl24, nl32, nl40, nl64, nl65, nl384, pk_mul, nI_add]]
  show WG _ _ _ _ _ _ _ (19, [(2, vR (some q)), (0, vR (some a)), (1, vR (some b)), (3, vI (nI (lnK 42 σ ar)))], [vI (nI (lnK 42 σ ar + 1)), vR (some a)], sO (sO (sC (sA σ q 42 (lnK 42 σ ar + max (lnK 42 σ ar + 1 - (lnK 42 σ ar)) ((lnK 42 σ ar) / 2))) 420006 q (va_cpy (σ.2.1 420006 ar) (fun _ => none) 0 0 (lnK 42 σ ar))) 210100 a 0 (some q)) 420006 q (lnK 42 σ ar) (some b), 0 + 1, 0 + (lnK 42 σ ar + max (lnK 42 σ ar + 1 - (lnK 42 σ ar)) ((lnK 42 σ ar) / 2)))
  refine w_puti (k := 21) rfl rfl rfl hk_a rfl rfl (Or.inl rfl) (Or.inl rfl) ?_
  show WG _ _ _ _ _ _ _ (22, [(2, vR (some q)), (0, vR (some a)), (1, vR (some b)), (3, vI (nI (lnK 42 σ ar)))], [], sI (sO (sO (sC (sA σ q 42 (lnK 42 σ ar + max (lnK 42 σ ar + 1 - (lnK 42 σ ar)) ((lnK 42 σ ar) / 2))) 420006 q (va_cpy (σ.2.1 420006 ar) (fun _ => none) 0 0 (lnK 42 σ ar))) 210100 a 0 (some q)) 420006 q (lnK 42 σ ar) (some b)) 210200 a 0 (nI (lnK 42 σ ar + 1)), 0 + 1, 0 + (lnK 42 σ ar + max (lnK 42 σ ar + 1 - (lnK 42 σ ar)) ((lnK 42 σ ar) / 2)))
  exact w_vret rfl rfl (by omega) (by omega) (⟨q, hq, hqe, rfl, rfl⟩)

set_option maxHeartbeats 4000000 in
theorem c_al_add3e_21 (l : Launch) (E : FE) (d : Nat) (σ : Sg) (a b dd : Nat) (hd : dd + 3 ≤ d) (hk : σ.2.2.2 a = 21) (hb : σ.2.2.2 b = 6) (he : σ.2.1 210100 a 0 = some (fe E)) (hs : σ.1 210200 a 0 = nI 0) : CT l E d 214 [vR (some a), vR (some b), vR (some (fe E)), vI 0] σ 1 10 (fun r σ' => ∃ q, σ.2.2.2 q = 0 ∧ q ≠ fe E ∧ r = none ∧ σ' = sI (sO (sO (sA σ q 42 10) 210100 a 0 (some q)) 420006 q (0) (some b)) 210200 a 0 (nI (0 + 1))) (fun _ _ => False) := by
  refine CTo ok_al_add3 (by decide +kernel) rfl rfl rfl ?_
  refine w_run 2 (S' := (2, [(0, vR (some a)), (1, vR (some b)), (2, vR (some (fe E))), (3, vI 0)], [vR (some (fe E)), vI 0], σ, 0, 0)) rfl ?_
  refine w_lenE rfl rfl ?_
  show WG _ _ _ _ _ _ _ (3, [(0, vR (some a)), (1, vR (some b)), (2, vR (some (fe E))), (3, vI 0)], [vI 0, vI 0], σ, 0, 0)
  refine w_ic_ne rfl (fun c1 => (absurd ((nI_eq (a := 0) (b := 0) (by omega) (by omega)).mpr (by omega)) c1)) (fun c1 => ?_)
  have nc1 := (nI_eq (a := 0) (b := 0) (by omega) (by omega)).mp c1
  refine w_run 1 (S' := (7, [(0, vR (some a)), (1, vR (some b)), (2, vR (some (fe E))), (3, vI 0)], [vR (some a)], σ, 0, 0)) rfl ?_
  refine w_callV (st := []) [] rfl ml_9_129 rfl rfl hk rfl rfl rfl (by simp only [RM]; omega) (by simp only [RM]; show 8 + (1 + 11) + _ ≤ _; omega) rfl (by simp only [RM]; omega) (by simp only [RM]; omega) (c_al_grow0E_21 l E (dd + 2) σ a dd (by omega) hk he hs) (fun _ _ h => h.elim) ?_
  intro r9 s9 q9
  obtain ⟨q, hq, hqe, e1, e2⟩ := q9
  rw [e1, e2]
  clear e1 e2 r9 s9
  have hn_a : a ≠ q := ne0 (hk) hq (by decide)
  have hk_a : (sO (sA σ q 42 10) 210100 a 0 (some q)).2.2.2 a = 21 := by show (if a = q then _ else _) = _; rw [if_neg hn_a]; exact hk
  have hn_b : b ≠ q := ne0 (hb) hq (by decide)
  have hk_b : (sO (sA σ q 42 10) 210100 a 0 (some q)).2.2.2 b = 6 := by show (if b = q then _ else _) = _; rw [if_neg hn_b]; exact hb
  have hkq : (sO (sA σ q 42 10) 210100 a 0 (some q)).2.2.2 q = 42 := by show (if q = q then _ else _) = _; rw [if_pos rfl]
  have hlq : lnK 42 (sO (sA σ q 42 10) 210100 a 0 (some q)) q = 10 := sA_lenq (k := 42) (by omega)
  show WG _ _ _ _ _ _ _ (10, [(0, vR (some a)), (1, vR (some b)), (2, vR (some (fe E))), (3, vI 0)], [vR (some q)], sO (sA σ q 42 10) 210100 a 0 (some q), 0 + 1, 0 + 10)
  refine w_run 4 (S' := (14, [(2, vR (some q)), (0, vR (some a)), (1, vR (some b)), (3, vI 0)], [vR (some b), vI 0, vR (some q)], sO (sA σ q 42 10) 210100 a 0 (some q), 0 + 1, 0 + 10)) rfl ?_
  refine w_aastM (k := 42) rfl rfl hkq (show AK 42 6 by unfold AK; decide) rfl hk_b (show vp_in (nI 0) (lnK 42 (sO (sA σ q 42 10) 210100 a 0 (some q)) q) from vp_in_nI (by rw [hlq]; omega) (by rw [hlq]; omega)) ?_
  show WG _ _ _ _ _ _ _ (15, [(2, vR (some q)), (0, vR (some a)), (1, vR (some b)), (3, vI 0)], [], sO (sO (sA σ q 42 10) 210100 a 0 (some q)) 420006 q ((0 : Int32).toNatClampNeg) (some b), 0 + 1, 0 + 10)
  rw [show (0 : Int32).toNatClampNeg = 0 from nI_clamp (n := 0) (by omega)]
  refine w_run 4 (S' := (19, [(2, vR (some q)), (0, vR (some a)), (1, vR (some b)), (3, vI 0)], [vI (0 + 1), vR (some a)], sO (sO (sA σ q 42 10) 210100 a 0 (some q)) 420006 q 0 (some b), 0 + 1, 0 + 10)) rfl ?_
  rw [show (0 + 1 : Int32) = nI (0 + 1) from by simp only [nl0, nl1, nl2, nl3, nl4, nl5, nl6, nl8, nl9, nl10, nl12, nl15, nl16, nl20, nl24, nl32, nl40, nl64, nl65, nl384, pk_mul, nI_add]]
  show WG _ _ _ _ _ _ _ (19, [(2, vR (some q)), (0, vR (some a)), (1, vR (some b)), (3, vI 0)], [vI (nI (0 + 1)), vR (some a)], sO (sO (sA σ q 42 10) 210100 a 0 (some q)) 420006 q 0 (some b), 0 + 1, 0 + 10)
  refine w_puti (k := 21) rfl rfl rfl hk_a rfl rfl (Or.inl rfl) (Or.inl rfl) ?_
  show WG _ _ _ _ _ _ _ (22, [(2, vR (some q)), (0, vR (some a)), (1, vR (some b)), (3, vI 0)], [], sI (sO (sO (sA σ q 42 10) 210100 a 0 (some q)) 420006 q 0 (some b)) 210200 a 0 (nI (0 + 1)), 0 + 1, 0 + 10)
  exact w_vret rfl rfl (by omega) (by omega) (⟨q, hq, hqe, rfl, rfl⟩)

set_option maxHeartbeats 4000000 in
theorem c_al_addr_21 (l : Launch) (E : FE) (d : Nat) (σ : Sg) (a ar b n dd : Nat) (hd : dd + 1 ≤ d) (hk : σ.2.2.2 a = 21) (hka : σ.2.2.2 ar = 42) (hb : σ.2.2.2 b = 6) (he : σ.2.1 210100 a 0 = some ar) (hs : σ.1 210200 a 0 = nI n) (hn : n < lnK 42 σ ar) (hL2 : lnK 42 σ ar ≤ 300) : CT l E d 204 [vR (some a), vR (some b)] σ 1 450 (fun r σ' => r = some (vI 1) ∧ σ' = sI (sO (sI σ 210000 a 0 (σ.1 210000 a 0 + 1)) 420006 ar n (some b)) 210200 a 0 (nI (n + 1))) (fun _ _ => False) := by
  refine CTo ok_al_add (by decide +kernel) rfl rfl rfl ?_
  refine w_run 2 (S' := (2, [(0, vR (some a)), (1, vR (some b))], [vR (some a), vR (some a)], σ, 0, 0)) rfl ?_
  refine w_get (k := 21) (vI (σ.1 210000 a 0)) rfl rfl rfl hk rfl rfl ?_
  refine w_run 2 (S' := (7, [(0, vR (some a)), (1, vR (some b))], [vI ((σ.1 210000 a 0) + 1), vR (some a)], σ, 0, 0)) rfl ?_
  refine w_puti (k := 21) rfl rfl rfl hk rfl rfl (Or.inl rfl) (Or.inl rfl) ?_
  show WG _ _ _ _ _ _ _ (10, [(0, vR (some a)), (1, vR (some b))], [], sI σ 210000 a 0 ((σ.1 210000 a 0) + 1), 0, 0)
  refine w_run 3 (S' := (13, [(0, vR (some a)), (1, vR (some b))], [vR (some a), vR (some b), vR (some a)], sI σ 210000 a 0 ((σ.1 210000 a 0) + 1), 0, 0)) rfl ?_
  refine w_get (k := 21) (vR (σ.2.1 210100 a 0)) rfl rfl rfl hk rfl rfl ?_
  refine w_run 1 (S' := (17, [(0, vR (some a)), (1, vR (some b))], [vR (some a), vR (σ.2.1 210100 a 0), vR (some b), vR (some a)], sI σ 210000 a 0 ((σ.1 210000 a 0) + 1), 0, 0)) rfl ?_
  refine w_get (k := 21) (vI (σ.1 210200 a 0)) rfl rfl rfl hk rfl rfl ?_
  refine Eq.mp (congrArg (fun x9 => WG _ _ _ _ _ _ _ (20, [(0, vR (some a)), (1, vR (some b))], [vI x9, vR (σ.2.1 210100 a 0), vR (some b), vR (some a)], sI σ 210000 a 0 ((σ.1 210000 a 0) + 1), 0, 0)) (hs.symm : nI n = σ.1 210200 a 0)) ?_
  show WG _ _ _ _ _ _ _ (20, [(0, vR (some a)), (1, vR (some b))], [vI (nI n), vR (σ.2.1 210100 a 0), vR (some b), vR (some a)], sI σ 210000 a 0 ((σ.1 210000 a 0) + 1), 0, 0)
  refine Eq.mp (congrArg (fun x9 => WG _ _ _ _ _ _ _ (20, [(0, vR (some a)), (1, vR (some b))], [vI (nI n), vR x9, vR (some b), vR (some a)], sI σ 210000 a 0 ((σ.1 210000 a 0) + 1), 0, 0)) (Eq.symm he : some ar = σ.2.1 210100 a 0)) ?_
  show WG _ _ _ _ _ _ _ (20, [(0, vR (some a)), (1, vR (some b))], [vI (nI n), vR (some ar), vR (some b), vR (some a)], sI σ 210000 a 0 ((σ.1 210000 a 0) + 1), 0, 0)
  refine w_callV (st := []) [vR (some b), vR (some ar), vI (nI n)] rfl ml_9_131 rfl rfl hk rfl rfl rfl (by simp only [RM]; omega) (by simp only [RM]; show 8 + (4 + 11) + _ ≤ _; omega) rfl (by simp only [RM]; omega) (by simp only [RM]; omega) (c_al_add3r_21 l E dd (sI σ 210000 a 0 (σ.1 210000 a 0 + 1)) a ar b n hk hka hb hn hL2) (fun _ _ h => h.elim) ?_
  intro r9 s9 q9
  rw [q9.1, q9.2]
  clear q9 r9 s9
  show WG _ _ _ _ _ _ _ (23, [(0, vR (some a)), (1, vR (some b))], [], sI (sO (sI σ 210000 a 0 (σ.1 210000 a 0 + 1)) 420006 ar n (some b)) 210200 a 0 (nI (n + 1)), 0, 0)
  refine w_run 1 (S' := (24, [(0, vR (some a)), (1, vR (some b))], [vI 1], sI (sO (sI σ 210000 a 0 (σ.1 210000 a 0 + 1)) 420006 ar n (some b)) 210200 a 0 (nI (n + 1)), 0, 0)) rfl ?_
  exact w_iret rfl (Or.inr ⟨rfl, Or.inr rfl⟩) (by omega) (by omega) (⟨rfl, rfl⟩)

set_option maxHeartbeats 4000000 in
theorem c_al_addm_21 (l : Launch) (E : FE) (d : Nat) (σ : Sg) (a ar b dd : Nat) (hd : dd + 7 ≤ d) (hk : σ.2.2.2 a = 21) (hka : σ.2.2.2 ar = 42) (hb : σ.2.2.2 b = 6) (he : σ.2.1 210100 a 0 = some ar) (hL1 : 1 ≤ lnK 42 σ ar) (hL2 : lnK 42 σ ar ≤ 300) (hs : σ.1 210200 a 0 = nI (lnK 42 σ ar)) : CT l E d 204 [vR (some a), vR (some b)] σ 1 450 (fun r σ' => ∃ q, σ.2.2.2 q = 0 ∧ q ≠ fe E ∧ r = some (vI 1) ∧ σ' = sI (sO (sO (sC (sA (sI σ 210000 a 0 (σ.1 210000 a 0 + 1)) q 42 (lnK 42 (sI σ 210000 a 0 (σ.1 210000 a 0 + 1)) ar + max (lnK 42 (sI σ 210000 a 0 (σ.1 210000 a 0 + 1)) ar + 1 - (lnK 42 (sI σ 210000 a 0 (σ.1 210000 a 0 + 1)) ar)) ((lnK 42 (sI σ 210000 a 0 (σ.1 210000 a 0 + 1)) ar) / 2))) 420006 q (va_cpy ((sI σ 210000 a 0 (σ.1 210000 a 0 + 1)).2.1 420006 ar) (fun _ => none) 0 0 (lnK 42 (sI σ 210000 a 0 (σ.1 210000 a 0 + 1)) ar))) 210100 a 0 (some q)) 420006 q (lnK 42 (sI σ 210000 a 0 (σ.1 210000 a 0 + 1)) ar) (some b)) 210200 a 0 (nI (lnK 42 (sI σ 210000 a 0 (σ.1 210000 a 0 + 1)) ar + 1))) (fun _ _ => False) := by
  have hL9 : lnK 42 (sI σ 210000 a 0 (σ.1 210000 a 0 + 1)) ar ≤ 300 := hL2
  refine CTo ok_al_add (by decide +kernel) rfl rfl rfl ?_
  refine w_run 2 (S' := (2, [(0, vR (some a)), (1, vR (some b))], [vR (some a), vR (some a)], σ, 0, 0)) rfl ?_
  refine w_get (k := 21) (vI (σ.1 210000 a 0)) rfl rfl rfl hk rfl rfl ?_
  refine w_run 2 (S' := (7, [(0, vR (some a)), (1, vR (some b))], [vI ((σ.1 210000 a 0) + 1), vR (some a)], σ, 0, 0)) rfl ?_
  refine w_puti (k := 21) rfl rfl rfl hk rfl rfl (Or.inl rfl) (Or.inl rfl) ?_
  show WG _ _ _ _ _ _ _ (10, [(0, vR (some a)), (1, vR (some b))], [], sI σ 210000 a 0 ((σ.1 210000 a 0) + 1), 0, 0)
  refine w_run 3 (S' := (13, [(0, vR (some a)), (1, vR (some b))], [vR (some a), vR (some b), vR (some a)], sI σ 210000 a 0 ((σ.1 210000 a 0) + 1), 0, 0)) rfl ?_
  refine w_get (k := 21) (vR (σ.2.1 210100 a 0)) rfl rfl rfl hk rfl rfl ?_
  refine w_run 1 (S' := (17, [(0, vR (some a)), (1, vR (some b))], [vR (some a), vR (σ.2.1 210100 a 0), vR (some b), vR (some a)], sI σ 210000 a 0 ((σ.1 210000 a 0) + 1), 0, 0)) rfl ?_
  refine w_get (k := 21) (vI (σ.1 210200 a 0)) rfl rfl rfl hk rfl rfl ?_
  refine Eq.mp (congrArg (fun x9 => WG _ _ _ _ _ _ _ (20, [(0, vR (some a)), (1, vR (some b))], [vI x9, vR (σ.2.1 210100 a 0), vR (some b), vR (some a)], sI σ 210000 a 0 ((σ.1 210000 a 0) + 1), 0, 0)) (hs.symm : nI (lnK 42 σ ar) = σ.1 210200 a 0)) ?_
  show WG _ _ _ _ _ _ _ (20, [(0, vR (some a)), (1, vR (some b))], [vI (nI (lnK 42 σ ar)), vR (σ.2.1 210100 a 0), vR (some b), vR (some a)], sI σ 210000 a 0 ((σ.1 210000 a 0) + 1), 0, 0)
  refine Eq.mp (congrArg (fun x9 => WG _ _ _ _ _ _ _ (20, [(0, vR (some a)), (1, vR (some b))], [vI (nI (lnK 42 σ ar)), vR x9, vR (some b), vR (some a)], sI σ 210000 a 0 ((σ.1 210000 a 0) + 1), 0, 0)) (Eq.symm he : some ar = σ.2.1 210100 a 0)) ?_
  show WG _ _ _ _ _ _ _ (20, [(0, vR (some a)), (1, vR (some b))], [vI (nI (lnK 42 σ ar)), vR (some ar), vR (some b), vR (some a)], sI σ 210000 a 0 ((σ.1 210000 a 0) + 1), 0, 0)
  refine w_callV (st := []) [vR (some b), vR (some ar), vI (nI (lnK 42 σ ar))] rfl ml_9_131 rfl rfl hk rfl rfl rfl (by simp only [RM]; omega) (by simp only [RM]; show 8 + (4 + 11) + _ ≤ _; omega) rfl (by simp only [RM]; omega) (by simp only [RM]; omega) (c_al_add3m_21 l E (dd + 6) (sI σ 210000 a 0 (σ.1 210000 a 0 + 1)) a ar b dd (by omega) hk hka hb he hL1 hL2 hs) (fun _ _ h => h.elim) ?_
  intro r9 s9 q9
  obtain ⟨q, hq, hqe, e1, e2⟩ := q9
  rw [e1, e2]
  clear e1 e2 r9 s9
  show WG _ _ _ _ _ _ _ (23, [(0, vR (some a)), (1, vR (some b))], [], sI (sO (sO (sC (sA (sI σ 210000 a 0 (σ.1 210000 a 0 + 1)) q 42 (lnK 42 (sI σ 210000 a 0 (σ.1 210000 a 0 + 1)) ar + max (lnK 42 (sI σ 210000 a 0 (σ.1 210000 a 0 + 1)) ar + 1 - (lnK 42 (sI σ 210000 a 0 (σ.1 210000 a 0 + 1)) ar)) ((lnK 42 (sI σ 210000 a 0 (σ.1 210000 a 0 + 1)) ar) / 2))) 420006 q (va_cpy ((sI σ 210000 a 0 (σ.1 210000 a 0 + 1)).2.1 420006 ar) (fun _ => none) 0 0 (lnK 42 (sI σ 210000 a 0 (σ.1 210000 a 0 + 1)) ar))) 210100 a 0 (some q)) 420006 q (lnK 42 (sI σ 210000 a 0 (σ.1 210000 a 0 + 1)) ar) (some b)) 210200 a 0 (nI (lnK 42 (sI σ 210000 a 0 (σ.1 210000 a 0 + 1)) ar + 1)), 0 + 1, 0 + (lnK 42 (sI σ 210000 a 0 (σ.1 210000 a 0 + 1)) ar + max (lnK 42 (sI σ 210000 a 0 (σ.1 210000 a 0 + 1)) ar + 1 - (lnK 42 (sI σ 210000 a 0 (σ.1 210000 a 0 + 1)) ar)) ((lnK 42 (sI σ 210000 a 0 (σ.1 210000 a 0 + 1)) ar) / 2)))
  refine w_run 1 (S' := (24, [(0, vR (some a)), (1, vR (some b))], [vI 1], sI (sO (sO (sC (sA (sI σ 210000 a 0 (σ.1 210000 a 0 + 1)) q 42 (lnK 42 (sI σ 210000 a 0 (σ.1 210000 a 0 + 1)) ar + max (lnK 42 (sI σ 210000 a 0 (σ.1 210000 a 0 + 1)) ar + 1 - (lnK 42 (sI σ 210000 a 0 (σ.1 210000 a 0 + 1)) ar)) ((lnK 42 (sI σ 210000 a 0 (σ.1 210000 a 0 + 1)) ar) / 2))) 420006 q (va_cpy ((sI σ 210000 a 0 (σ.1 210000 a 0 + 1)).2.1 420006 ar) (fun _ => none) 0 0 (lnK 42 (sI σ 210000 a 0 (σ.1 210000 a 0 + 1)) ar))) 210100 a 0 (some q)) 420006 q (lnK 42 (sI σ 210000 a 0 (σ.1 210000 a 0 + 1)) ar) (some b)) 210200 a 0 (nI (lnK 42 (sI σ 210000 a 0 (σ.1 210000 a 0 + 1)) ar + 1)), 0 + 1, 0 + (lnK 42 (sI σ 210000 a 0 (σ.1 210000 a 0 + 1)) ar + max (lnK 42 (sI σ 210000 a 0 (σ.1 210000 a 0 + 1)) ar + 1 - (lnK 42 (sI σ 210000 a 0 (σ.1 210000 a 0 + 1)) ar)) ((lnK 42 (sI σ 210000 a 0 (σ.1 210000 a 0 + 1)) ar) / 2)))) rfl ?_
  exact w_iret rfl (Or.inr ⟨rfl, Or.inr rfl⟩) (by omega) (by omega) (⟨q, hq, hqe, rfl, rfl⟩)

set_option maxHeartbeats 4000000 in
theorem c_al_adde_21 (l : Launch) (E : FE) (d : Nat) (σ : Sg) (a b dd : Nat) (hd : dd + 4 ≤ d) (hk : σ.2.2.2 a = 21) (hb : σ.2.2.2 b = 6) (he : σ.2.1 210100 a 0 = some (fe E)) (hs : σ.1 210200 a 0 = nI 0) : CT l E d 204 [vR (some a), vR (some b)] σ 1 450 (fun r σ' => ∃ q, σ.2.2.2 q = 0 ∧ q ≠ fe E ∧ r = some (vI 1) ∧ σ' = sI (sO (sO (sA (sI σ 210000 a 0 (σ.1 210000 a 0 + 1)) q 42 10) 210100 a 0 (some q)) 420006 q 0 (some b)) 210200 a 0 (nI (0 + 1))) (fun _ _ => False) := by
  refine CTo ok_al_add (by decide +kernel) rfl rfl rfl ?_
  refine w_run 2 (S' := (2, [(0, vR (some a)), (1, vR (some b))], [vR (some a), vR (some a)], σ, 0, 0)) rfl ?_
  refine w_get (k := 21) (vI (σ.1 210000 a 0)) rfl rfl rfl hk rfl rfl ?_
  refine w_run 2 (S' := (7, [(0, vR (some a)), (1, vR (some b))], [vI ((σ.1 210000 a 0) + 1), vR (some a)], σ, 0, 0)) rfl ?_
  refine w_puti (k := 21) rfl rfl rfl hk rfl rfl (Or.inl rfl) (Or.inl rfl) ?_
  show WG _ _ _ _ _ _ _ (10, [(0, vR (some a)), (1, vR (some b))], [], sI σ 210000 a 0 ((σ.1 210000 a 0) + 1), 0, 0)
  refine w_run 3 (S' := (13, [(0, vR (some a)), (1, vR (some b))], [vR (some a), vR (some b), vR (some a)], sI σ 210000 a 0 ((σ.1 210000 a 0) + 1), 0, 0)) rfl ?_
  refine w_get (k := 21) (vR (σ.2.1 210100 a 0)) rfl rfl rfl hk rfl rfl ?_
  refine w_run 1 (S' := (17, [(0, vR (some a)), (1, vR (some b))], [vR (some a), vR (σ.2.1 210100 a 0), vR (some b), vR (some a)], sI σ 210000 a 0 ((σ.1 210000 a 0) + 1), 0, 0)) rfl ?_
  refine w_get (k := 21) (vI (σ.1 210200 a 0)) rfl rfl rfl hk rfl rfl ?_
  refine Eq.mp (congrArg (fun x9 => WG _ _ _ _ _ _ _ (20, [(0, vR (some a)), (1, vR (some b))], [vI x9, vR (σ.2.1 210100 a 0), vR (some b), vR (some a)], sI σ 210000 a 0 ((σ.1 210000 a 0) + 1), 0, 0)) (hs.symm : nI 0 = σ.1 210200 a 0)) ?_
  show WG _ _ _ _ _ _ _ (20, [(0, vR (some a)), (1, vR (some b))], [vI 0, vR (σ.2.1 210100 a 0), vR (some b), vR (some a)], sI σ 210000 a 0 ((σ.1 210000 a 0) + 1), 0, 0)
  refine Eq.mp (congrArg (fun x9 => WG _ _ _ _ _ _ _ (20, [(0, vR (some a)), (1, vR (some b))], [vI 0, vR x9, vR (some b), vR (some a)], sI σ 210000 a 0 ((σ.1 210000 a 0) + 1), 0, 0)) (Eq.symm he : some (fe E) = σ.2.1 210100 a 0)) ?_
  show WG _ _ _ _ _ _ _ (20, [(0, vR (some a)), (1, vR (some b))], [vI 0, vR (some (fe E)), vR (some b), vR (some a)], sI σ 210000 a 0 ((σ.1 210000 a 0) + 1), 0, 0)
  refine w_callV (st := []) [vR (some b), vR (some (fe E)), vI 0] rfl ml_9_131 rfl rfl hk rfl rfl rfl (by simp only [RM]; omega) (by simp only [RM]; show 8 + (4 + 11) + _ ≤ _; omega) rfl (by simp only [RM]; omega) (by simp only [RM]; omega) (c_al_add3e_21 l E (dd + 3) (sI σ 210000 a 0 (σ.1 210000 a 0 + 1)) a b dd (by omega) hk hb he hs) (fun _ _ h => h.elim) ?_
  intro r9 s9 q9
  obtain ⟨q, hq, hqe, e1, e2⟩ := q9
  rw [e1, e2]
  clear e1 e2 r9 s9
  show WG _ _ _ _ _ _ _ (23, [(0, vR (some a)), (1, vR (some b))], [], sI (sO (sO (sA (sI σ 210000 a 0 (σ.1 210000 a 0 + 1)) q 42 10) 210100 a 0 (some q)) 420006 q 0 (some b)) 210200 a 0 (nI (0 + 1)), 0 + 1, 0 + 10)
  refine w_run 1 (S' := (24, [(0, vR (some a)), (1, vR (some b))], [vI 1], sI (sO (sO (sA (sI σ 210000 a 0 (σ.1 210000 a 0 + 1)) q 42 10) 210100 a 0 (some q)) 420006 q 0 (some b)) 210200 a 0 (nI (0 + 1)), 0 + 1, 0 + 10)) rfl ?_
  exact w_iret rfl (Or.inr ⟨rfl, Or.inr rfl⟩) (by omega) (by omega) (⟨q, hq, hqe, rfl, rfl⟩)

set_option maxHeartbeats 4000000 in
theorem c_al_size_21 (l : Launch) (E : FE) (d : Nat) (σ : Sg) (a : Nat) (hk : σ.2.2.2 a = 21) : CT l E d 201 [vR (some a)] σ 0 0 (fun r σ' => r = some (vI (σ.1 210200 a 0)) ∧ σ' = σ) (fun _ _ => False) := by
  refine CTo ok_al_size (by decide +kernel) rfl rfl rfl ?_
  refine w_run 1 (S' := (1, [(0, vR (some a))], [vR (some a)], σ, 0, 0)) rfl ?_
  refine w_get (k := 21) (vI (σ.1 210200 a 0)) rfl rfl rfl hk rfl rfl ?_
  exact w_iret rfl (Or.inl rfl) (by omega) (by omega) (⟨rfl, rfl⟩)

set_option maxHeartbeats 4000000 in
theorem c_al_isEmpty_21 (l : Launch) (E : FE) (d : Nat) (σ : Sg) (a : Nat) (hk : σ.2.2.2 a = 21) : CT l E d 202 [vR (some a)] σ 0 0 (fun r σ' => r = some (vI (if σ.1 210200 a 0 = 0 then 1 else 0)) ∧ σ' = σ) (fun _ _ => False) := by
  refine CTo ok_al_isEmpty (by decide +kernel) rfl rfl rfl ?_
  refine w_run 1 (S' := (1, [(0, vR (some a))], [vR (some a)], σ, 0, 0)) rfl ?_
  refine w_get (k := 21) (vI (σ.1 210200 a 0)) rfl rfl rfl hk rfl rfl ?_
  refine w_if_ne rfl (fun c1 => ?_) (fun c1 => ?_)
  · refine w_run 1 (S' := (12, [(0, vR (some a))], [vI 0], σ, 0, 0)) rfl ?_
    exact w_iret rfl (Or.inr ⟨rfl, Or.inl rfl⟩) (by omega) (by omega) (⟨by simp [c1], rfl⟩)
  · refine w_run 2 (S' := (12, [(0, vR (some a))], [vI 1], σ, 0, 0)) rfl ?_
    exact w_iret rfl (Or.inr ⟨rfl, Or.inr rfl⟩) (by omega) (by omega) (⟨by simp [c1], rfl⟩)

set_option maxHeartbeats 4000000 in
theorem c_al_elementData_21 (l : Launch) (E : FE) (d : Nat) (σ : Sg) (a ar i : Nat) (hk : σ.2.2.2 a = 21) (hka : σ.2.2.2 ar = 42) (he : σ.2.1 210100 a 0 = some ar) (hi : i < lnK 42 σ ar) (hL2 : lnK 42 σ ar ≤ 300) : CT l E d 213 [vR (some a), vI (nI i)] σ 0 0 (fun r σ' => r = some (vR (σ.2.1 420006 ar i)) ∧ σ' = σ) (fun _ _ => False) := by
  refine CTo ok_al_elementData (by decide +kernel) rfl rfl rfl ?_
  refine w_run 1 (S' := (1, [(0, vR (some a)), (1, vI (nI i))], [vR (some a)], σ, 0, 0)) rfl ?_
  refine w_get (k := 21) (vR (σ.2.1 210100 a 0)) rfl rfl rfl hk rfl rfl ?_
  refine w_run 1 (S' := (5, [(0, vR (some a)), (1, vI (nI i))], [vI (nI i), vR (σ.2.1 210100 a 0)], σ, 0, 0)) rfl ?_
  refine w_aald (k := 42) rfl he hka rfl rfl (show vp_in (nI i) (lnK 42 σ ar) from vp_in_nI (by omega) (by omega)) ?_
  show WG _ _ _ _ _ _ _ (6, [(0, vR (some a)), (1, vI (nI i))], [vR (σ.2.1 420006 ar (nI i).toNatClampNeg)], σ, 0, 0)
  rw [show (nI i : Int32).toNatClampNeg = i from nI_clamp (n := i) (by omega)]
  show WG _ _ _ _ _ _ _ (6, [(0, vR (some a)), (1, vI (nI i))], [vR (σ.2.1 420006 ar i)], σ, 0, 0)
  exact w_aret rfl rfl (Or.inl ⟨_, rfl⟩) (by omega) (by omega) (⟨rfl, rfl⟩)

set_option maxHeartbeats 4000000 in
theorem c_al_get_21 (l : Launch) (E : FE) (d : Nat) (σ : Sg) (a ar i n dd : Nat) (hd : dd + 2 ≤ d) (hk : σ.2.2.2 a = 21) (hka : σ.2.2.2 ar = 42) (he : σ.2.1 210100 a 0 = some ar) (hs : σ.1 210200 a 0 = nI n) (hi : i < n) (hn : n ≤ lnK 42 σ ar) (hL2 : lnK 42 σ ar ≤ 300) : CT l E d 203 [vR (some a), vI (nI i)] σ 0 0 (fun r σ' => r = some (vR (σ.2.1 420006 ar i)) ∧ σ' = σ) (fun _ _ => False) := by
  refine CTo ok_al_get (by decide +kernel) rfl rfl rfl ?_
  refine w_run 2 (S' := (2, [(0, vR (some a)), (1, vI (nI i))], [vR (some a), vI (nI i)], σ, 0, 0)) rfl ?_
  refine w_get (k := 21) (vI (σ.1 210200 a 0)) rfl rfl rfl hk rfl rfl ?_
  refine Eq.mp (congrArg (fun x9 => WG _ _ _ _ _ _ _ (5, [(0, vR (some a)), (1, vI (nI i))], [vI x9, vI (nI i)], σ, 0, 0)) (hs.symm : nI n = σ.1 210200 a 0)) ?_
  show WG _ _ _ _ _ _ _ (5, [(0, vR (some a)), (1, vI (nI i))], [vI (nI n), vI (nI i)], σ, 0, 0)
  refine w_callT (st := []) [vI (nI i), vI (nI n)] rfl ml_9_118 rfl (by simp only [RM]; omega) (by simp only [RM]; show 8 + (2 + 11) + _ ≤ _; omega) rfl (by simp only [RM]; omega) (by simp only [RM]; omega) (c_ob_checkIndex l E (dd + 1) σ i n dd (by omega) hi (by omega)) (fun _ _ h => h.elim) ?_
  intro r9 s9 q9
  rw [q9.1, q9.2]
  clear q9 r9 s9
  show WG _ _ _ _ _ _ _ (8, [(0, vR (some a)), (1, vI (nI i))], [vI (nI i)], σ, 0, 0)
  refine w_run 3 (S' := (11, [(0, vR (some a)), (1, vI (nI i))], [vI (nI i), vR (some a)], σ, 0, 0)) rfl ?_
  refine w_callV (st := []) [vI (nI i)] rfl ml_9_123 rfl rfl hk rfl rfl rfl (by simp only [RM]; omega) (by simp only [RM]; show 8 + (2 + 11) + _ ≤ _; omega) rfl (by simp only [RM]; omega) (by simp only [RM]; omega) (c_al_elementData_21 l E dd σ a ar i hk hka he (by omega) hL2) (fun _ _ h => h.elim) ?_
  intro r9 s9 q9
  rw [q9.1, q9.2]
  clear q9 r9 s9
  show WG _ _ _ _ _ _ _ (14, [(0, vR (some a)), (1, vI (nI i))], [vR (σ.2.1 420006 ar i)], σ, 0, 0)
  exact w_aret rfl rfl (Or.inl ⟨_, rfl⟩) (by omega) (by omega) (⟨rfl, rfl⟩)

def rm_21 (σ : Sg) (a ar n i : Nat) : Sg := if n - 1 ≤ i then sO (sI (sI σ 210000 a 0 (σ.1 210000 a 0 + 1)) 210200 a 0 (nI (n - 1))) 420006 ar (n - 1) none else sO (sI (sC (sI σ 210000 a 0 (σ.1 210000 a 0 + 1)) 420006 ar (va_cpy (σ.2.1 420006 ar) (σ.2.1 420006 ar) (i + 1) i (n - 1 - i))) 210200 a 0 (nI (n - 1))) 420006 ar (n - 1) none
set_option maxHeartbeats 4000000 in
theorem c_al_fastRemove_21 (l : Launch) (E : FE) (d : Nat) (σ : Sg) (a ar i n : Nat) (hd : 1 ≤ d) (hk : σ.2.2.2 a = 21) (hka : σ.2.2.2 ar = 42) (hs : σ.1 210200 a 0 = nI n) (hi : i < n) (hn : n ≤ lnK 42 σ ar) (hL2 : lnK 42 σ ar ≤ 300) : CT l E d 221 [vR (some a), vR (some ar), vI (nI i)] σ 0 0 (fun r σ' => r = none ∧ σ' = rm_21 σ a ar n i) (fun _ _ => False) := by
  refine CTo ok_al_fastRemove (by decide +kernel) rfl rfl rfl ?_
  refine w_run 2 (S' := (2, [(0, vR (some a)), (1, vR (some ar)), (2, vI (nI i))], [vR (some a), vR (some a)], σ, 0, 0)) rfl ?_
  refine w_get (k := 21) (vI (σ.1 210000 a 0)) rfl rfl rfl hk rfl rfl ?_
  refine w_run 2 (S' := (7, [(0, vR (some a)), (1, vR (some ar)), (2, vI (nI i))], [vI ((σ.1 210000 a 0) + 1), vR (some a)], σ, 0, 0)) rfl ?_
  refine w_puti (k := 21) rfl rfl rfl hk rfl rfl (Or.inl rfl) (Or.inl rfl) ?_
  show WG _ _ _ _ _ _ _ (10, [(0, vR (some a)), (1, vR (some ar)), (2, vI (nI i))], [], sI σ 210000 a 0 ((σ.1 210000 a 0) + 1), 0, 0)
  refine w_run 1 (S' := (11, [(0, vR (some a)), (1, vR (some ar)), (2, vI (nI i))], [vR (some a)], sI σ 210000 a 0 ((σ.1 210000 a 0) + 1), 0, 0)) rfl ?_
  refine w_get (k := 21) (vI (σ.1 210200 a 0)) rfl rfl rfl hk rfl rfl ?_
  refine Eq.mp (congrArg (fun x9 => WG _ _ _ _ _ _ _ (14, [(0, vR (some a)), (1, vR (some ar)), (2, vI (nI i))], [vI x9], sI σ 210000 a 0 ((σ.1 210000 a 0) + 1), 0, 0)) (hs.symm : nI n = σ.1 210200 a 0)) ?_
  show WG _ _ _ _ _ _ _ (14, [(0, vR (some a)), (1, vR (some ar)), (2, vI (nI i))], [vI (nI n)], sI σ 210000 a 0 ((σ.1 210000 a 0) + 1), 0, 0)
  refine w_run 5 (S' := (19, [(3, vI ((nI n) - 1)), (0, vR (some a)), (1, vR (some ar)), (2, vI (nI i))], [vI (nI i), vI ((nI n) - 1)], sI σ 210000 a 0 ((σ.1 210000 a 0) + 1), 0, 0)) rfl ?_
  rw [show ((nI n) - 1 : Int32) = nI (n - 1) from nI_sub9 (a := n) (b := 1) (by omega)]
  show WG _ _ _ _ _ _ _ (19, [(3, vI (nI (n - 1))), (0, vR (some a)), (1, vR (some ar)), (2, vI (nI i))], [vI (nI i), vI (nI (n - 1))], sI σ 210000 a 0 ((σ.1 210000 a 0) + 1), 0, 0)
  refine w_ic_le rfl (fun c1 => ?_) (fun c1 => ?_)
  · have nc1 := (nI_leI (a := n - 1) (b := i) (by omega) (by omega)).mp c1
    refine w_run 4 (S' := (38, [(3, vI (nI (n - 1))), (0, vR (some a)), (1, vR (some ar)), (2, vI (nI i))], [vI (nI (n - 1)), vR (some a), vI (nI (n - 1)), vR (some ar)], sI σ 210000 a 0 ((σ.1 210000 a 0) + 1), 0, 0)) rfl ?_
    refine w_puti (k := 21) rfl rfl rfl hk rfl rfl (Or.inl rfl) (Or.inl rfl) ?_
    show WG _ _ _ _ _ _ _ (41, [(3, vI (nI (n - 1))), (0, vR (some a)), (1, vR (some ar)), (2, vI (nI i))], [vI (nI (n - 1)), vR (some ar)], sI (sI σ 210000 a 0 ((σ.1 210000 a 0) + 1)) 210200 a 0 (nI (n - 1)), 0, 0)
    refine w_run 1 (S' := (42, [(3, vI (nI (n - 1))), (0, vR (some a)), (1, vR (some ar)), (2, vI (nI i))], [vR none, vI (nI (n - 1)), vR (some ar)], sI (sI σ 210000 a 0 ((σ.1 210000 a 0) + 1)) 210200 a 0 (nI (n - 1)), 0, 0)) rfl ?_
    refine w_aastN (k := 42) rfl rfl hka rfl (by decide) rfl (show vp_in (nI (n - 1)) (lnK 42 σ ar) from vp_in_nI (by omega) (by omega)) ?_
    show WG _ _ _ _ _ _ _ (43, [(3, vI (nI (n - 1))), (0, vR (some a)), (1, vR (some ar)), (2, vI (nI i))], [], sO (sI (sI σ 210000 a 0 ((σ.1 210000 a 0) + 1)) 210200 a 0 (nI (n - 1))) 420006 ar ((nI (n - 1)).toNatClampNeg) none, 0, 0)
    rw [show (nI (n - 1) : Int32).toNatClampNeg = n - 1 from nI_clamp (n := n - 1) (by omega)]
    exact w_vret rfl rfl (by omega) (by omega) (⟨rfl, by simp [rm_21, nc1]⟩)
  · have nc1 := mt (nI_leI (a := n - 1) (b := i) (by omega) (by omega)).mpr c1
    refine w_run 9 (S' := (31, [(3, vI (nI (n - 1))), (0, vR (some a)), (1, vR (some ar)), (2, vI (nI i))], [vI ((nI (n - 1)) - (nI i)), vI (nI i), vR (some ar), vI ((nI i) + 1), vR (some ar)], sI σ 210000 a 0 ((σ.1 210000 a 0) + 1), 0, 0)) rfl ?_
    rw [show ((nI (n - 1)) - (nI i) : Int32) = nI (n - 1 - i) from nI_sub9 (a := n - 1) (b := i) (by omega)]
    rw [show ((nI i) + 1 : Int32) = nI (i + 1) from by simp only [nl0, nl1, nl2, nl3, nl4, nl5, nl6, nl8, nl9, nl10, nl12, nl15, nl16, nl20, nl24, nl32, nl40, nl64, nl65, nl384, pk_mul, nI_add]]
    show WG _ _ _ _ _ _ _ (31, [(3, vI (nI (n - 1))), (0, vR (some a)), (1, vR (some ar)), (2, vI (nI i))], [vI (nI (n - 1 - i)), vI (nI i), vR (some ar), vI (nI (i + 1)), vR (some ar)], sI σ 210000 a 0 ((σ.1 210000 a 0) + 1), 0, 0)
    refine w_copy (k := 42) rfl lk_cp9 rfl rfl hka hka (show AK 42 6 by unfold AK; decide) (nI_pos (by omega)) (nI_pos (by omega)) (nI_pos (by omega)) (by rw [nI_clamp (by omega), nI_clamp (by omega)]; show _ ≤ lnK 42 σ ar; omega) (by rw [nI_clamp (by omega), nI_clamp (by omega)]; show _ ≤ lnK 42 σ ar; omega) rfl (by simp only [RM]; omega) (by simp only [RM]; omega) ?_
    show WG _ _ _ _ _ _ _ (34, [(3, vI (nI (n - 1))), (0, vR (some a)), (1, vR (some ar)), (2, vI (nI i))], [], sC (sI σ 210000 a 0 ((σ.1 210000 a 0) + 1)) 420006 ar (va_cpy ((sI σ 210000 a 0 ((σ.1 210000 a 0) + 1)).2.1 420006 ar) ((sI σ 210000 a 0 ((σ.1 210000 a 0) + 1)).2.1 420006 ar) (nI (i + 1) : Int32).toNatClampNeg (nI i : Int32).toNatClampNeg (nI (n - 1 - i) : Int32).toNatClampNeg), 0, 0)
    rw [nI_clamp (n := i + 1) (by omega), nI_clamp (n := i) (by omega), nI_clamp (n := n - 1 - i) (by omega)]
    show WG _ _ _ _ _ _ _ (34, [(3, vI (nI (n - 1))), (0, vR (some a)), (1, vR (some ar)), (2, vI (nI i))], [], sC (sI σ 210000 a 0 (σ.1 210000 a 0 + 1)) 420006 ar (va_cpy (σ.2.1 420006 ar) (σ.2.1 420006 ar) (i + 1) i (n - 1 - i)), 0, 0)
    refine w_run 4 (S' := (38, [(3, vI (nI (n - 1))), (0, vR (some a)), (1, vR (some ar)), (2, vI (nI i))], [vI (nI (n - 1)), vR (some a), vI (nI (n - 1)), vR (some ar)], sC (sI σ 210000 a 0 (σ.1 210000 a 0 + 1)) 420006 ar (va_cpy (σ.2.1 420006 ar) (σ.2.1 420006 ar) (i + 1) i (n - 1 - i)), 0, 0)) rfl ?_
    refine w_puti (k := 21) rfl rfl rfl hk rfl rfl (Or.inl rfl) (Or.inl rfl) ?_
    show WG _ _ _ _ _ _ _ (41, [(3, vI (nI (n - 1))), (0, vR (some a)), (1, vR (some ar)), (2, vI (nI i))], [vI (nI (n - 1)), vR (some ar)], sI (sC (sI σ 210000 a 0 (σ.1 210000 a 0 + 1)) 420006 ar (va_cpy (σ.2.1 420006 ar) (σ.2.1 420006 ar) (i + 1) i (n - 1 - i))) 210200 a 0 (nI (n - 1)), 0, 0)
    refine w_run 1 (S' := (42, [(3, vI (nI (n - 1))), (0, vR (some a)), (1, vR (some ar)), (2, vI (nI i))], [vR none, vI (nI (n - 1)), vR (some ar)], sI (sC (sI σ 210000 a 0 (σ.1 210000 a 0 + 1)) 420006 ar (va_cpy (σ.2.1 420006 ar) (σ.2.1 420006 ar) (i + 1) i (n - 1 - i))) 210200 a 0 (nI (n - 1)), 0, 0)) rfl ?_
    refine w_aastN (k := 42) rfl rfl hka rfl (by decide) rfl (show vp_in (nI (n - 1)) (lnK 42 σ ar) from vp_in_nI (by omega) (by omega)) ?_
    show WG _ _ _ _ _ _ _ (43, [(3, vI (nI (n - 1))), (0, vR (some a)), (1, vR (some ar)), (2, vI (nI i))], [], sO (sI (sC (sI σ 210000 a 0 (σ.1 210000 a 0 + 1)) 420006 ar (va_cpy (σ.2.1 420006 ar) (σ.2.1 420006 ar) (i + 1) i (n - 1 - i))) 210200 a 0 (nI (n - 1))) 420006 ar ((nI (n - 1)).toNatClampNeg) none, 0, 0)
    rw [show (nI (n - 1) : Int32).toNatClampNeg = n - 1 from nI_clamp (n := n - 1) (by omega)]
    exact w_vret rfl rfl (by omega) (by omega) (⟨rfl, by simp [rm_21, nc1]⟩)

set_option maxHeartbeats 4000000 in
theorem c_al_remove_21 (l : Launch) (E : FE) (d : Nat) (σ : Sg) (a ar i n dd : Nat) (hd : dd + 2 ≤ d) (hk : σ.2.2.2 a = 21) (hka : σ.2.2.2 ar = 42) (he : σ.2.1 210100 a 0 = some ar) (hs : σ.1 210200 a 0 = nI n) (hi : i < n) (hn : n ≤ lnK 42 σ ar) (hL2 : lnK 42 σ ar ≤ 300) : CT l E d 205 [vR (some a), vI (nI i)] σ 0 0 (fun r σ' => r = some (vR (σ.2.1 420006 ar i)) ∧ σ' = rm_21 σ a ar n i) (fun _ _ => False) := by
  refine CTo ok_al_remove (by decide +kernel) rfl rfl rfl ?_
  refine w_run 2 (S' := (2, [(0, vR (some a)), (1, vI (nI i))], [vR (some a), vI (nI i)], σ, 0, 0)) rfl ?_
  refine w_get (k := 21) (vI (σ.1 210200 a 0)) rfl rfl rfl hk rfl rfl ?_
  refine Eq.mp (congrArg (fun x9 => WG _ _ _ _ _ _ _ (5, [(0, vR (some a)), (1, vI (nI i))], [vI x9, vI (nI i)], σ, 0, 0)) (hs.symm : nI n = σ.1 210200 a 0)) ?_
  show WG _ _ _ _ _ _ _ (5, [(0, vR (some a)), (1, vI (nI i))], [vI (nI n), vI (nI i)], σ, 0, 0)
  refine w_callT (st := []) [vI (nI i), vI (nI n)] rfl ml_9_118 rfl (by simp only [RM]; omega) (by simp only [RM]; show 8 + (2 + 11) + _ ≤ _; omega) rfl (by simp only [RM]; omega) (by simp only [RM]; omega) (c_ob_checkIndex l E (dd + 1) σ i n dd (by omega) hi (by omega)) (fun _ _ h => h.elim) ?_
  intro r9 s9 q9
  rw [q9.1, q9.2]
  clear q9 r9 s9
  show WG _ _ _ _ _ _ _ (8, [(0, vR (some a)), (1, vI (nI i))], [vI (nI i)], σ, 0, 0)
  refine w_run 2 (S' := (10, [(0, vR (some a)), (1, vI (nI i))], [vR (some a)], σ, 0, 0)) rfl ?_
  refine w_get (k := 21) (vR (σ.2.1 210100 a 0)) rfl rfl rfl hk rfl rfl ?_
  refine w_run 3 (S' := (16, [(2, vR (σ.2.1 210100 a 0)), (0, vR (some a)), (1, vI (nI i))], [vI (nI i), vR (σ.2.1 210100 a 0)], σ, 0, 0)) rfl ?_
  refine w_aald (k := 42) rfl he hka rfl rfl (show vp_in (nI i) (lnK 42 σ ar) from vp_in_nI (by omega) (by omega)) ?_
  show WG _ _ _ _ _ _ _ (17, [(2, vR (σ.2.1 210100 a 0)), (0, vR (some a)), (1, vI (nI i))], [vR (σ.2.1 420006 ar (nI i).toNatClampNeg)], σ, 0, 0)
  rw [show (nI i : Int32).toNatClampNeg = i from nI_clamp (n := i) (by omega)]
  show WG _ _ _ _ _ _ _ (17, [(2, vR (σ.2.1 210100 a 0)), (0, vR (some a)), (1, vI (nI i))], [vR (σ.2.1 420006 ar i)], σ, 0, 0)
  refine w_run 4 (S' := (21, [(3, vR (σ.2.1 420006 ar i)), (2, vR (σ.2.1 210100 a 0)), (0, vR (some a)), (1, vI (nI i))], [vI (nI i), vR (σ.2.1 210100 a 0), vR (some a)], σ, 0, 0)) rfl ?_
  refine Eq.mp (congrArg (fun x9 => WG _ _ _ _ _ _ _ (21, [(3, vR (σ.2.1 420006 ar i)), (2, vR (σ.2.1 210100 a 0)), (0, vR (some a)), (1, vI (nI i))], [vI (nI i), vR x9, vR (some a)], σ, 0, 0)) (Eq.symm he : some ar = σ.2.1 210100 a 0)) ?_
  show WG _ _ _ _ _ _ _ (21, [(3, vR (σ.2.1 420006 ar i)), (2, vR (σ.2.1 210100 a 0)), (0, vR (some a)), (1, vI (nI i))], [vI (nI i), vR (some ar), vR (some a)], σ, 0, 0)
  refine w_callV (st := []) [vR (some ar), vI (nI i)] rfl ml_9_144 rfl rfl hk rfl rfl rfl (by simp only [RM]; omega) (by simp only [RM]; show 8 + (4 + 11) + _ ≤ _; omega) rfl (by simp only [RM]; omega) (by simp only [RM]; omega) (c_al_fastRemove_21 l E (dd + 1) σ a ar i n (by omega) hk hka hs hi hn hL2) (fun _ _ h => h.elim) ?_
  intro r9 s9 q9
  rw [q9.1, q9.2]
  clear q9 r9 s9
  show WG _ _ _ _ _ _ _ (24, [(3, vR (σ.2.1 420006 ar i)), (2, vR (σ.2.1 210100 a 0)), (0, vR (some a)), (1, vI (nI i))], [], rm_21 σ a ar n i, 0, 0)
  refine w_run 1 (S' := (25, [(3, vR (σ.2.1 420006 ar i)), (2, vR (σ.2.1 210100 a 0)), (0, vR (some a)), (1, vI (nI i))], [vR (σ.2.1 420006 ar i)], rm_21 σ a ar n i, 0, 0)) rfl ?_
  exact w_aret rfl rfl (Or.inl ⟨_, rfl⟩) (by omega) (by omega) (⟨rfl, rfl⟩)

def clr_21 (ar : Nat) : Nat → Sg → Sg := fun i τ => sO τ 420006 ar i none
set_option maxHeartbeats 4000000 in
theorem lk_al_clear_21 (l : Launch) (E : FE) (d : Nat) (σ : Sg) (a ar n : Nat) (h300 : n ≤ 300) {mc ms cs sl : Nat} {args : Array Value} {XX : State → Prop} {QF : State → List Frame → State → Prop} (hcs : cs ≤ mc) (hsl : sl ≤ ms) : ∀ (k i : Nat), i + k = n → ∀ (τ : Sg), τ.2.2.2 ar = 42 → (n ≤ lnK 42 τ ar ∧ lnK 42 τ ar ≤ 300) → (∀ (τ' : Sg), τ' = itF (clr_21 ar) k i τ → τ'.2.2.2 ar = 42 → (n ≤ lnK 42 τ' ar ∧ lnK 42 τ' ar ≤ 300) → WG l E (RM d mc ms) 206 args XX QF (42, [(1, vR (some ar)), (2, vI (nI n)), (0, vR (some a))], [], τ', cs, sl)) →
    WG l E (RM d mc ms) 206 args XX QF (27, [(3, vI (nI i)), (1, vR (some ar)), (2, vI (nI n)), (0, vR (some a))], [], τ, cs, sl) := by
  intro k
  induction k with
  | zero =>
    intro i hi τ hka hl K
    refine w_run 2 (S' := (29, [(3, vI (nI i)), (1, vR (some ar)), (2, vI (nI n)), (0, vR (some a))], [vI (nI n), vI (nI i)], τ, cs, sl)) rfl ?_
    refine w_ic_ge rfl (fun c1 => ?_) (fun c1 => (absurd ((nI_leI (a := n) (b := i) (by omega) (by omega)).mpr (by omega)) c1))
    have nc1 := (nI_leI (a := n) (b := i) (by omega) (by omega)).mp c1
    refine w_lsP [1, 2, 3] ?_
    show WG _ _ _ _ _ _ _ (42, [(1, vR (some ar)), (2, vI (nI n)), (0, vR (some a))], [], τ, cs, sl)
    exact K τ rfl hka hl
  | succ k ih =>
    intro i hi τ hka hl K
    refine w_run 2 (S' := (29, [(3, vI (nI i)), (1, vR (some ar)), (2, vI (nI n)), (0, vR (some a))], [vI (nI n), vI (nI i)], τ, cs, sl)) rfl ?_
    refine w_ic_ge rfl (fun c1 => (absurd ((nI_leI (a := n) (b := i) (by omega) (by omega)).mp c1) (by omega))) (fun c1 => ?_)
    have nc1 := mt (nI_leI (a := n) (b := i) (by omega) (by omega)).mpr c1
    refine w_run 3 (S' := (35, [(3, vI (nI i)), (1, vR (some ar)), (2, vI (nI n)), (0, vR (some a))], [vR none, vI (nI i), vR (some ar)], τ, cs, sl)) rfl ?_
    refine w_aastN (k := 42) rfl rfl hka rfl (by decide) rfl (show vp_in (nI i) (lnK 42 τ ar) from vp_in_nI (by omega) (by omega)) ?_
    show WG _ _ _ _ _ _ _ (36, [(3, vI (nI i)), (1, vR (some ar)), (2, vI (nI n)), (0, vR (some a))], [], sO τ 420006 ar ((nI i).toNatClampNeg) none, cs, sl)
    rw [show (nI i : Int32).toNatClampNeg = i from nI_clamp (n := i) (by omega)]
    refine w_run 2 (S' := (27, [(3, vI ((nI i) + 1)), (1, vR (some ar)), (2, vI (nI n)), (0, vR (some a))], [], sO τ 420006 ar i none, cs, sl)) rfl ?_
    rw [show ((nI i) + 1 : Int32) = nI (i + 1) from by simp only [nl0, nl1, nl2, nl3, nl4, nl5, nl6, nl8, nl9, nl10, nl12, nl15, nl16, nl20, nl24, nl32, nl40, nl64, nl65, nl384, pk_mul, nI_add]]
    show WG _ _ _ _ _ _ _ (27, [(3, vI (nI (i + 1))), (1, vR (some ar)), (2, vI (nI n)), (0, vR (some a))], [], sO τ 420006 ar i none, cs, sl)
    exact ih (i + 1) (by omega) (sO τ 420006 ar i none) (hka) (hl) (fun τ' e9 q90 q91 => K τ' (by rw [itF_succ, ← (show ((sO τ 420006 ar i none) : Sg) = (clr_21 ar) i τ from by simp [clr_21, c1])]; exact e9) q90 q91)
set_option maxHeartbeats 4000000 in
theorem c_al_clear_21 (l : Launch) (E : FE) (d : Nat) (σ : Sg) (a ar n : Nat) (hk : σ.2.2.2 a = 21) (hka : σ.2.2.2 ar = 42) (he : σ.2.1 210100 a 0 = some ar) (hs : σ.1 210200 a 0 = nI n) (hn : n ≤ lnK 42 σ ar) (hL2 : lnK 42 σ ar ≤ 300) : CT l E d 206 [vR (some a)] σ 0 0 (fun r σ' => r = none ∧ σ' = itF (clr_21 ar) n 0 (sI (sI σ 210000 a 0 (σ.1 210000 a 0 + 1)) 210200 a 0 0)) (fun _ _ => False) := by
  refine CTo ok_al_clear (by decide +kernel) rfl rfl rfl ?_
  refine w_run 2 (S' := (2, [(0, vR (some a))], [vR (some a), vR (some a)], σ, 0, 0)) rfl ?_
  refine w_get (k := 21) (vI (σ.1 210000 a 0)) rfl rfl rfl hk rfl rfl ?_
  refine w_run 2 (S' := (7, [(0, vR (some a))], [vI ((σ.1 210000 a 0) + 1), vR (some a)], σ, 0, 0)) rfl ?_
  refine w_puti (k := 21) rfl rfl rfl hk rfl rfl (Or.inl rfl) (Or.inl rfl) ?_
  show WG _ _ _ _ _ _ _ (10, [(0, vR (some a))], [], sI σ 210000 a 0 ((σ.1 210000 a 0) + 1), 0, 0)
  refine w_run 1 (S' := (11, [(0, vR (some a))], [vR (some a)], sI σ 210000 a 0 ((σ.1 210000 a 0) + 1), 0, 0)) rfl ?_
  refine w_get (k := 21) (vR (σ.2.1 210100 a 0)) rfl rfl rfl hk rfl rfl ?_
  refine w_run 2 (S' := (16, [(1, vR (σ.2.1 210100 a 0)), (0, vR (some a))], [vR (some a)], sI σ 210000 a 0 ((σ.1 210000 a 0) + 1), 0, 0)) rfl ?_
  refine w_get (k := 21) (vI (σ.1 210200 a 0)) rfl rfl rfl hk rfl rfl ?_
  refine Eq.mp (congrArg (fun x9 => WG _ _ _ _ _ _ _ (19, [(1, vR (σ.2.1 210100 a 0)), (0, vR (some a))], [vI x9], sI σ 210000 a 0 ((σ.1 210000 a 0) + 1), 0, 0)) (hs.symm : nI n = σ.1 210200 a 0)) ?_
  show WG _ _ _ _ _ _ _ (19, [(1, vR (σ.2.1 210100 a 0)), (0, vR (some a))], [vI (nI n)], sI σ 210000 a 0 ((σ.1 210000 a 0) + 1), 0, 0)
  refine w_run 4 (S' := (23, [(2, vI (nI n)), (1, vR (σ.2.1 210100 a 0)), (0, vR (some a))], [vI 0, vR (some a), vI 0], sI σ 210000 a 0 ((σ.1 210000 a 0) + 1), 0, 0)) rfl ?_
  refine w_puti (k := 21) rfl rfl rfl hk rfl rfl (Or.inl rfl) (Or.inl rfl) ?_
  show WG _ _ _ _ _ _ _ (26, [(2, vI (nI n)), (1, vR (σ.2.1 210100 a 0)), (0, vR (some a))], [vI 0], sI (sI σ 210000 a 0 ((σ.1 210000 a 0) + 1)) 210200 a 0 0, 0, 0)
  refine w_run 1 (S' := (27, [(3, vI 0), (2, vI (nI n)), (1, vR (σ.2.1 210100 a 0)), (0, vR (some a))], [], sI (sI σ 210000 a 0 ((σ.1 210000 a 0) + 1)) 210200 a 0 0, 0, 0)) rfl ?_
  refine Eq.mp (congrArg (fun x9 => WG _ _ _ _ _ _ _ (27, [(3, vI 0), (2, vI (nI n)), (1, vR x9), (0, vR (some a))], [], sI (sI σ 210000 a 0 ((σ.1 210000 a 0) + 1)) 210200 a 0 0, 0, 0)) (Eq.symm he : some ar = σ.2.1 210100 a 0)) ?_
  show WG _ _ _ _ _ _ _ (27, [(3, vI 0), (2, vI (nI n)), (1, vR (some ar)), (0, vR (some a))], [], sI (sI σ 210000 a 0 ((σ.1 210000 a 0) + 1)) 210200 a 0 0, 0, 0)
  refine w_lsP [0, 2, 1, 3] ?_
  show WG _ _ _ _ _ _ _ (27, [(3, vI 0), (1, vR (some ar)), (2, vI (nI n)), (0, vR (some a))], [], sI (sI σ 210000 a 0 ((σ.1 210000 a 0) + 1)) 210200 a 0 0, 0, 0)
  refine lk_al_clear_21 l E d σ a ar n (by omega) (Nat.le_refl _) (Nat.le_refl _) n 0 (by omega) (sI (sI σ 210000 a 0 (σ.1 210000 a 0 + 1)) 210200 a 0 0) hka ⟨hn, hL2⟩ (fun τ1 e1 _ _ => ?_)
  show WG _ _ _ _ _ _ _ (42, [(1, vR (some ar)), (2, vI (nI n)), (0, vR (some a))], [], τ1, 0, 0)
  exact w_vret rfl rfl (by omega) (by omega) (⟨rfl, e1⟩)

set_option maxHeartbeats 4000000 in
theorem c_al_clearE_21 (l : Launch) (E : FE) (d : Nat) (σ : Sg) (a : Nat) (hk : σ.2.2.2 a = 21) (he : σ.2.1 210100 a 0 = some (fe E)) (hs : σ.1 210200 a 0 = nI 0) : CT l E d 206 [vR (some a)] σ 0 0 (fun r σ' => r = none ∧ σ' = sI (sI σ 210000 a 0 (σ.1 210000 a 0 + 1)) 210200 a 0 0) (fun _ _ => False) := by
  refine CTo ok_al_clear (by decide +kernel) rfl rfl rfl ?_
  refine w_run 2 (S' := (2, [(0, vR (some a))], [vR (some a), vR (some a)], σ, 0, 0)) rfl ?_
  refine w_get (k := 21) (vI (σ.1 210000 a 0)) rfl rfl rfl hk rfl rfl ?_
  refine w_run 2 (S' := (7, [(0, vR (some a))], [vI ((σ.1 210000 a 0) + 1), vR (some a)], σ, 0, 0)) rfl ?_
  refine w_puti (k := 21) rfl rfl rfl hk rfl rfl (Or.inl rfl) (Or.inl rfl) ?_
  show WG _ _ _ _ _ _ _ (10, [(0, vR (some a))], [], sI σ 210000 a 0 ((σ.1 210000 a 0) + 1), 0, 0)
  refine w_run 1 (S' := (11, [(0, vR (some a))], [vR (some a)], sI σ 210000 a 0 ((σ.1 210000 a 0) + 1), 0, 0)) rfl ?_
  refine w_get (k := 21) (vR (σ.2.1 210100 a 0)) rfl rfl rfl hk rfl rfl ?_
  refine w_run 2 (S' := (16, [(1, vR (σ.2.1 210100 a 0)), (0, vR (some a))], [vR (some a)], sI σ 210000 a 0 ((σ.1 210000 a 0) + 1), 0, 0)) rfl ?_
  refine w_get (k := 21) (vI (σ.1 210200 a 0)) rfl rfl rfl hk rfl rfl ?_
  refine Eq.mp (congrArg (fun x9 => WG _ _ _ _ _ _ _ (19, [(1, vR (σ.2.1 210100 a 0)), (0, vR (some a))], [vI x9], sI σ 210000 a 0 ((σ.1 210000 a 0) + 1), 0, 0)) (hs.symm : nI 0 = σ.1 210200 a 0)) ?_
  show WG _ _ _ _ _ _ _ (19, [(1, vR (σ.2.1 210100 a 0)), (0, vR (some a))], [vI 0], sI σ 210000 a 0 ((σ.1 210000 a 0) + 1), 0, 0)
  refine w_run 4 (S' := (23, [(2, vI 0), (1, vR (σ.2.1 210100 a 0)), (0, vR (some a))], [vI 0, vR (some a), vI 0], sI σ 210000 a 0 ((σ.1 210000 a 0) + 1), 0, 0)) rfl ?_
  refine w_puti (k := 21) rfl rfl rfl hk rfl rfl (Or.inl rfl) (Or.inl rfl) ?_
  show WG _ _ _ _ _ _ _ (26, [(2, vI 0), (1, vR (σ.2.1 210100 a 0)), (0, vR (some a))], [vI 0], sI (sI σ 210000 a 0 ((σ.1 210000 a 0) + 1)) 210200 a 0 0, 0, 0)
  refine w_run 3 (S' := (29, [(3, vI 0), (2, vI 0), (1, vR (σ.2.1 210100 a 0)), (0, vR (some a))], [vI 0, vI 0], sI (sI σ 210000 a 0 ((σ.1 210000 a 0) + 1)) 210200 a 0 0, 0, 0)) rfl ?_
  refine w_ic_ge rfl (fun c1 => ?_) (fun c1 => (absurd ((nI_leI (a := 0) (b := 0) (by omega) (by omega)).mpr (by omega)) c1))
  have nc1 := (nI_leI (a := 0) (b := 0) (by omega) (by omega)).mp c1
  exact w_vret rfl rfl (by omega) (by omega) (⟨rfl, rfl⟩)


set_option maxHeartbeats 4000000 in
theorem c_ab_init_21 (l : Launch) (E : FE) (d : Nat) (σ : Sg) (a dd : Nat) (hd : dd + 2 ≤ d) (hk : σ.2.2.2 a = 21) : CT l E d 209 [vR (some a)] σ 0 0 (fun r σ' => r = none ∧ σ' = sI σ 210000 a 0 0) (fun _ _ => False) := by
  refine CTo ok_ab_init (by decide +kernel) rfl rfl rfl ?_
  refine w_run 1 (S' := (1, [(0, vR (some a))], [vR (some a)], σ, 0, 0)) rfl ?_
  refine w_callI (st := []) [] rfl ml_12_1 rfl rfl (by simp only [RM]; omega) (by simp only [RM]; show 8 + (1 + 11) + _ ≤ _; omega) rfl (by simp only [RM]; omega) (by simp only [RM]; omega) (c_ac_init_20 l E (dd + 1) σ a (by omega)) ?_
  intro r9 s9 q9
  rw [q9.1, q9.2]
  clear q9 r9 s9
  show WG _ _ _ _ _ _ _ (4, [(0, vR (some a))], [], σ, 0, 0)
  refine w_run 2 (S' := (6, [(0, vR (some a))], [vI 0, vR (some a)], σ, 0, 0)) rfl ?_
  refine w_puti (k := 21) rfl rfl rfl hk rfl rfl (Or.inl rfl) (Or.inl rfl) ?_
  show WG _ _ _ _ _ _ _ (9, [(0, vR (some a))], [], sI σ 210000 a 0 0, 0, 0)
  exact w_vret rfl rfl (by omega) (by omega) (⟨rfl, rfl⟩)

set_option maxHeartbeats 4000000 in
theorem c_al_init_21 (l : Launch) (E : FE) (d : Nat) (σ : Sg) (a dd : Nat) (hd : dd + 3 ≤ d) (hk : σ.2.2.2 a = 21) : CT l E d 200 [vR (some a)] σ 0 0 (fun r σ' => r = none ∧ σ' = sO (sI σ 210000 a 0 0) 210100 a 0 (some (fe E))) (fun _ _ => False) := by
  refine CTo ok_al_init (by decide +kernel) rfl rfl rfl ?_
  refine w_run 1 (S' := (1, [(0, vR (some a))], [vR (some a)], σ, 0, 0)) rfl ?_
  refine w_callI (st := []) [] rfl ml_9_1 rfl rfl (by simp only [RM]; omega) (by simp only [RM]; show 8 + (1 + 11) + _ ≤ _; omega) rfl (by simp only [RM]; omega) (by simp only [RM]; omega) (c_ab_init_21 l E (dd + 2) σ a dd (by omega) hk) ?_
  intro r9 s9 q9
  rw [q9.1, q9.2]
  clear q9 r9 s9
  show WG _ _ _ _ _ _ _ (4, [(0, vR (some a))], [], sI σ 210000 a 0 0, 0, 0)
  refine w_run 1 (S' := (5, [(0, vR (some a))], [vR (some a)], sI σ 210000 a 0 0, 0, 0)) rfl ?_
  refine w_getsE rfl lk_empty ?_
  refine w_putr (k := 21) rfl rfl rfl hk rfl rfl (fun _ _ h9 => absurd rfl h9) rfl (Or.inl rfl) ?_
  show WG _ _ _ _ _ _ _ (11, [(0, vR (some a))], [], sO (sI σ 210000 a 0 0) 210100 a 0 (some (fe E)), 0, 0)
  exact w_vret rfl rfl (by omega) (by omega) (⟨rfl, rfl⟩)

set_option maxHeartbeats 4000000 in
theorem c_ay_copyOf3_22 (l : Launch) (E : FE) (d : Nat) (σ : Sg) (ar N : Nat) (hd : 1 ≤ d) (hk : σ.2.2.2 ar = 43) (hL : lnK 43 σ ar ≤ N) (hN : N ≤ 100000) : CT l E d 219 [vR (some ar), vI (nI N), vR (some (fm E))] σ 1 N (fun r σ' => ∃ q, σ.2.2.2 q = 0 ∧ q ≠ fe E ∧ r = some (vR (some q)) ∧ σ' = sC (sA σ q 43 N) 430007 q (va_cpy (σ.2.1 430007 ar) (fun _ => none) 0 0 (lnK 43 σ ar))) (fun _ _ => False) := by
  refine CTo ok_ay_copyOf3 (by decide +kernel) rfl rfl rfl ?_
  refine w_run 1 (S' := (1, [(0, vR (some ar)), (1, vI (nI N)), (2, vR (some (fm E)))], [vR (some (fm E))], σ, 0, 0)) rfl ?_
  refine w_ldcM rfl lk_mir ?_
  refine w_ac_ne rfl (fun c1 => (absurd rfl c1)) (fun c1 => ?_)
  refine w_run 1 (S' := (7, [(0, vR (some ar)), (1, vI (nI N)), (2, vR (some (fm E)))], [vI (nI N)], σ, 0, 0)) rfl ?_
  refine w_newqO (k := 43) (N := N) rfl lk_obj17 (show AK 43 7 by unfold AK; decide) rfl (by omega) (by simp only [RM]; omega) (by simp only [RM]; omega) (fun q hq hqe => ?_)
  have hn_ar : ar ≠ q := ne0 (hk) hq (by decide)
  have hk_ar : (sA σ q 43 N).2.2.2 ar = 43 := by simp only [sA, sI, sN]; rw [if_neg hn_ar]; exact hk
  have hkq : (sA σ q 43 N).2.2.2 q = 43 := by simp [sA, sI, sN]
  show WG _ _ _ _ _ _ _ (10, [(0, vR (some ar)), (1, vI (nI N)), (2, vR (some (fm E)))], [vR (some q)], sA σ q 43 N, 0 + 1, 0 + N)
  refine w_run 7 (S' := (30, [(3, vR (some q)), (0, vR (some ar)), (1, vI (nI N)), (2, vR (some (fm E)))], [vR (some ar), vI 0, vR (some q), vI 0, vR (some ar)], sA σ q 43 N, 0 + 1, 0 + N)) rfl ?_
  refine w_len (k := 43) rfl rfl hk_ar (show AK 43 7 by unfold AK; decide) ?_
  show WG _ _ _ _ _ _ _ (31, [(3, vR (some q)), (0, vR (some ar)), (1, vI (nI N)), (2, vR (some (fm E)))], [vI (nI (lnK 43 (sA σ q 43 N) ar)), vI 0, vR (some q), vI 0, vR (some ar)], sA σ q 43 N, 0 + 1, 0 + N)
  refine w_run 1 (S' := (32, [(3, vR (some q)), (0, vR (some ar)), (1, vI (nI N)), (2, vR (some (fm E)))], [vI (nI N), vI (nI (lnK 43 (sA σ q 43 N) ar)), vI 0, vR (some q), vI 0, vR (some ar)], sA σ q 43 N, 0 + 1, 0 + N)) rfl ?_
  refine w_min rfl lk_min rfl (by simp only [RM]; omega) (by simp only [RM]; omega) (by simp only [RM]; omega) (by simp only [RM]; omega) ?_
  rw [show (if nI N < nI (lnK 43 (sA σ q 43 N) ar) then nI N else nI (lnK 43 (sA σ q 43 N) ar) : Int32) = nI (lnK 43 σ ar) from (by rw [sA_len _ hn_ar, if_neg (nI_nlt hL (by omega))])]
  show WG _ _ _ _ _ _ _ (35, [(3, vR (some q)), (0, vR (some ar)), (1, vI (nI N)), (2, vR (some (fm E)))], [vI (nI (lnK 43 σ ar)), vI 0, vR (some q), vI 0, vR (some ar)], sA σ q 43 N, 0 + 1, 0 + N)
  refine w_copy (k := 43) rfl lk_cp17 rfl rfl hk_ar hkq (show AK 43 7 by unfold AK; decide) (by decide) (by decide) (nI_pos (by omega)) (by rw [cl0, nI_clamp (n := lnK 43 σ ar) (by omega), sA_len _ hn_ar]; omega) (by rw [cl0, nI_clamp (n := lnK 43 σ ar) (by omega), sA_lenq (by omega)]; omega) rfl (by simp only [RM]; omega) (by simp only [RM]; omega) ?_
  show WG _ _ _ _ _ _ _ (38, [(3, vR (some q)), (0, vR (some ar)), (1, vI (nI N)), (2, vR (some (fm E)))], [], sC (sA σ q 43 N) 430007 q (va_cpy ((sA σ q 43 N).2.1 430007 ar) ((sA σ q 43 N).2.1 430007 q) (0 : Int32).toNatClampNeg (0 : Int32).toNatClampNeg (nI (lnK 43 σ ar) : Int32).toNatClampNeg), 0 + 1, 0 + N)
  rw [sA_O hn_ar, sA_Oq, cl0, nI_clamp (n := lnK 43 σ ar) (by omega)]
  show WG _ _ _ _ _ _ _ (38, [(3, vR (some q)), (0, vR (some ar)), (1, vI (nI N)), (2, vR (some (fm E)))], [], sC (sA σ q 43 N) 430007 q (va_cpy (σ.2.1 430007 ar) (fun _ => none) 0 0 (lnK 43 σ ar)), 0 + 1, 0 + N)
  refine w_run 1 (S' := (39, [(3, vR (some q)), (0, vR (some ar)), (1, vI (nI N)), (2, vR (some (fm E)))], [vR (some q)], sC (sA σ q 43 N) 430007 q (va_cpy (σ.2.1 430007 ar) (fun _ => none) 0 0 (lnK 43 σ ar)), 0 + 1, 0 + N)) rfl ?_
  exact w_aret rfl rfl (Or.inr ⟨_, rfl⟩) (by omega) (by omega) (⟨q, hq, hqe, rfl, rfl⟩)

set_option maxHeartbeats 4000000 in
theorem c_ay_copyOf_22 (l : Launch) (E : FE) (d : Nat) (σ : Sg) (ar N dd : Nat) (hd : dd + 2 ≤ d) (hk : σ.2.2.2 ar = 43) (hL : lnK 43 σ ar ≤ N) (hN : N ≤ 100000) : CT l E d 218 [vR (some ar), vI (nI N)] σ 1 N (fun r σ' => ∃ q, σ.2.2.2 q = 0 ∧ q ≠ fe E ∧ r = some (vR (some q)) ∧ σ' = sC (sA σ q 43 N) 430007 q (va_cpy (σ.2.1 430007 ar) (fun _ => none) 0 0 (lnK 43 σ ar))) (fun _ _ => False) := by
  refine CTo ok_ay_copyOf (by decide +kernel) rfl rfl rfl ?_
  refine w_run 3 (S' := (3, [(0, vR (some ar)), (1, vI (nI N))], [vR (some ar), vI (nI N), vR (some ar)], σ, 0, 0)) rfl ?_
  refine w_getC (k := 43) rfl lk_gc rfl hk (show AK 43 7 by unfold AK; decide) rfl (by simp only [RM]; omega) (by simp only [RM]; omega) ?_
  refine w_callS (st := []) [vR (some ar), vI (nI N), vR (some (fm E))] rfl ml_17_300 rfl (by simp only [RM]; omega) (by simp only [RM]; show 8 + (4 + 11) + _ ≤ _; omega) rfl (by simp only [RM]; omega) (by simp only [RM]; omega) (c_ay_copyOf3_22 l E (dd + 1) σ ar N (by omega) hk hL hN) (fun _ _ h => h.elim) ?_
  intro r9 s9 q9
  obtain ⟨q, hq, hqe, e1, e2⟩ := q9
  rw [e1, e2]
  clear e1 e2 r9 s9
  show WG _ _ _ _ _ _ _ (9, [(0, vR (some ar)), (1, vI (nI N))], [vR (some q)], sC (sA σ q 43 N) 430007 q (va_cpy (σ.2.1 430007 ar) (fun _ => none) 0 0 (lnK 43 σ ar)), 0 + 1, 0 + N)
  exact w_aret rfl rfl (Or.inr ⟨_, rfl⟩) (by omega) (by omega) (⟨q, hq, hqe, rfl, rfl⟩)

set_option maxHeartbeats 4000000 in
theorem c_al_grow_22 (l : Launch) (E : FE) (d : Nat) (σ : Sg) (a ar dd : Nat) (hd : dd + 4 ≤ d) (hk : σ.2.2.2 a = 22) (hka : σ.2.2.2 ar = 43) (he : σ.2.1 220100 a 0 = some ar) (hL1 : 1 ≤ lnK 43 σ ar) (hL2 : lnK 43 σ ar ≤ 300) : CT l E d 216 [vR (some a), vI (nI (lnK 43 σ ar + 1))] σ 1 (lnK 43 σ ar + max (lnK 43 σ ar + 1 - (lnK 43 σ ar)) ((lnK 43 σ ar) / 2)) (fun r σ' => ∃ q, σ.2.2.2 q = 0 ∧ q ≠ fe E ∧ r = some (vR (some q)) ∧ σ' = sO (sC (sA σ q 43 (lnK 43 σ ar + max (lnK 43 σ ar + 1 - (lnK 43 σ ar)) ((lnK 43 σ ar) / 2))) 430007 q (va_cpy (σ.2.1 430007 ar) (fun _ => none) 0 0 (lnK 43 σ ar))) 220100 a 0 (some q)) (fun _ _ => False) := by
  refine CTo ok_al_grow (by decide +kernel) rfl rfl rfl ?_
  refine w_run 1 (S' := (1, [(0, vR (some a)), (1, vI (nI (lnK 43 σ ar + 1)))], [vR (some a)], σ, 0, 0)) rfl ?_
  refine w_get (k := 22) (vR (σ.2.1 220100 a 0)) rfl rfl rfl hk rfl rfl ?_
  refine w_len (k := 43) rfl he hka (show AK 43 7 by unfold AK; decide) ?_
  show WG _ _ _ _ _ _ _ (5, [(0, vR (some a)), (1, vI (nI (lnK 43 σ ar + 1)))], [vI (nI (lnK 43 σ ar))], σ, 0, 0)
  refine w_run 2 (S' := (7, [(2, vI (nI (lnK 43 σ ar))), (0, vR (some a)), (1, vI (nI (lnK 43 σ ar + 1)))], [vI (nI (lnK 43 σ ar))], σ, 0, 0)) rfl ?_
  refine w_if_gt rfl (fun c1 => ?_) (fun c1 => (absurd ((nI_ltI (a := 0) (b := lnK 43 σ ar) (by omega) (by omega)).mpr (by omega)) c1))
  have nc1 := (nI_ltI (a := 0) (b := lnK 43 σ ar) (by omega) (by omega)).mp c1
  refine w_run 7 (S' := (27, [(2, vI (nI (lnK 43 σ ar))), (0, vR (some a)), (1, vI (nI (lnK 43 σ ar + 1)))], [vI ((nI (lnK 43 σ ar)) >>> (1 &&& 31)), vI ((nI (lnK 43 σ ar + 1)) - (nI (lnK 43 σ ar))), vI (nI (lnK 43 σ ar))], σ, 0, 0)) rfl ?_
  rw [show ((nI (lnK 43 σ ar)) >>> (1 &&& 31) : Int32) = nI ((lnK 43 σ ar) / 2) from ishr1 (by omega)]
  rw [show ((nI (lnK 43 σ ar + 1)) - (nI (lnK 43 σ ar)) : Int32) = nI (lnK 43 σ ar + 1 - (lnK 43 σ ar)) from nI_sub9 (a := lnK 43 σ ar + 1) (b := lnK 43 σ ar) (by omega)]
  show WG _ _ _ _ _ _ _ (27, [(2, vI (nI (lnK 43 σ ar))), (0, vR (some a)), (1, vI (nI (lnK 43 σ ar + 1)))], [vI (nI ((lnK 43 σ ar) / 2)), vI (nI (lnK 43 σ ar + 1 - (lnK 43 σ ar))), vI (nI (lnK 43 σ ar))], σ, 0, 0)
  refine w_callT (st := []) [vI (nI (lnK 43 σ ar)), vI (nI (lnK 43 σ ar + 1 - (lnK 43 σ ar))), vI (nI ((lnK 43 σ ar) / 2))] rfl ml_9_73 rfl (by simp only [RM]; omega) (by simp only [RM]; show 8 + (4 + 11) + _ ≤ _; omega) rfl (by simp only [RM]; omega) (by simp only [RM]; omega) (c_as_newLength l E (dd + 1) σ (lnK 43 σ ar) (lnK 43 σ ar + 1 - (lnK 43 σ ar)) ((lnK 43 σ ar) / 2) (by omega) (by omega) (by omega) (by omega) (by omega)) (fun _ _ h => h.elim) ?_
  intro r9 s9 q9
  rw [q9.1, q9.2]
  clear q9 r9 s9
  show WG _ _ _ _ _ _ _ (30, [(2, vI (nI (lnK 43 σ ar))), (0, vR (some a)), (1, vI (nI (lnK 43 σ ar + 1)))], [vI (nI (lnK 43 σ ar + max (lnK 43 σ ar + 1 - (lnK 43 σ ar)) ((lnK 43 σ ar) / 2)))], σ, 0, 0)
  refine w_run 3 (S' := (33, [(3, vI (nI (lnK 43 σ ar + max (lnK 43 σ ar + 1 - (lnK 43 σ ar)) ((lnK 43 σ ar) / 2)))), (2, vI (nI (lnK 43 σ ar))), (0, vR (some a)), (1, vI (nI (lnK 43 σ ar + 1)))], [vR (some a), vR (some a)], σ, 0, 0)) rfl ?_
  refine w_get (k := 22) (vR (σ.2.1 220100 a 0)) rfl rfl rfl hk rfl rfl ?_
  refine w_run 1 (S' := (37, [(3, vI (nI (lnK 43 σ ar + max (lnK 43 σ ar + 1 - (lnK 43 σ ar)) ((lnK 43 σ ar) / 2)))), (2, vI (nI (lnK 43 σ ar))), (0, vR (some a)), (1, vI (nI (lnK 43 σ ar + 1)))], [vI (nI (lnK 43 σ ar + max (lnK 43 σ ar + 1 - (lnK 43 σ ar)) ((lnK 43 σ ar) / 2))), vR (σ.2.1 220100 a 0), vR (some a)], σ, 0, 0)) rfl ?_
  refine Eq.mp (congrArg (fun x9 => WG _ _ _ _ _ _ _ (37, [(3, vI (nI (lnK 43 σ ar + max (lnK 43 σ ar + 1 - (lnK 43 σ ar)) ((lnK 43 σ ar) / 2)))), (2, vI (nI (lnK 43 σ ar))), (0, vR (some a)), (1, vI (nI (lnK 43 σ ar + 1)))], [vI (nI (lnK 43 σ ar + max (lnK 43 σ ar + 1 - (lnK 43 σ ar)) ((lnK 43 σ ar) / 2))), vR x9, vR (some a)], σ, 0, 0)) (Eq.symm he : some ar = σ.2.1 220100 a 0)) ?_
  show WG _ _ _ _ _ _ _ (37, [(3, vI (nI (lnK 43 σ ar + max (lnK 43 σ ar + 1 - (lnK 43 σ ar)) ((lnK 43 σ ar) / 2)))), (2, vI (nI (lnK 43 σ ar))), (0, vR (some a)), (1, vI (nI (lnK 43 σ ar + 1)))], [vI (nI (lnK 43 σ ar + max (lnK 43 σ ar + 1 - (lnK 43 σ ar)) ((lnK 43 σ ar) / 2))), vR (some ar), vR (some a)], σ, 0, 0)
  refine w_callT (st := [vR (some a)]) [vR (some ar), vI (nI (lnK 43 σ ar + max (lnK 43 σ ar + 1 - (lnK 43 σ ar)) ((lnK 43 σ ar) / 2)))] rfl ml_9_66 rfl (by simp only [RM]; omega) (by simp only [RM]; show 8 + (2 + 11) + _ ≤ _; omega) rfl (by simp only [RM]; omega) (by simp only [RM]; omega) (c_ay_copyOf_22 l E (dd + 2) σ ar (lnK 43 σ ar + max (lnK 43 σ ar + 1 - (lnK 43 σ ar)) ((lnK 43 σ ar) / 2)) dd (by omega) hka (by omega) (by omega)) (fun _ _ h => h.elim) ?_
  intro r9 s9 q9
  obtain ⟨q, hq, hqe, e1, e2⟩ := q9
  rw [e1, e2]
  clear e1 e2 r9 s9
  have hn_a : a ≠ q := ne0 (hk) hq (by decide)
  have hk_a : (sC (sA σ q 43 (lnK 43 σ ar + max (lnK 43 σ ar + 1 - (lnK 43 σ ar)) ((lnK 43 σ ar) / 2))) 430007 q (va_cpy (σ.2.1 430007 ar) (fun _ => none) 0 0 (lnK 43 σ ar))).2.2.2 a = 22 := by show (if a = q then _ else _) = _; rw [if_neg hn_a]; exact hk
  show WG _ _ _ _ _ _ _ (40, [(3, vI (nI (lnK 43 σ ar + max (lnK 43 σ ar + 1 - (lnK 43 σ ar)) ((lnK 43 σ ar) / 2)))), (2, vI (nI (lnK 43 σ ar))), (0, vR (some a)), (1, vI (nI (lnK 43 σ ar + 1)))], [vR (some q), vR (some a)], sC (sA σ q 43 (lnK 43 σ ar + max (lnK 43 σ ar + 1 - (lnK 43 σ ar)) ((lnK 43 σ ar) / 2))) 430007 q (va_cpy (σ.2.1 430007 ar) (fun _ => none) 0 0 (lnK 43 σ ar)), 0 + 1, 0 + (lnK 43 σ ar + max (lnK 43 σ ar + 1 - (lnK 43 σ ar)) ((lnK 43 σ ar) / 2)))
  refine w_run 1 (S' := (41, [(3, vI (nI (lnK 43 σ ar + max (lnK 43 σ ar + 1 - (lnK 43 σ ar)) ((lnK 43 σ ar) / 2)))), (2, vI (nI (lnK 43 σ ar))), (0, vR (some a)), (1, vI (nI (lnK 43 σ ar + 1)))], [vR (some q), vR (some a), vR (some q)], sC (sA σ q 43 (lnK 43 σ ar + max (lnK 43 σ ar + 1 - (lnK 43 σ ar)) ((lnK 43 σ ar) / 2))) 430007 q (va_cpy (σ.2.1 430007 ar) (fun _ => none) 0 0 (lnK 43 σ ar)), 0 + 1, 0 + (lnK 43 σ ar + max (lnK 43 σ ar + 1 - (lnK 43 σ ar)) ((lnK 43 σ ar) / 2)))) rfl ?_
  refine w_putr (k := 22) rfl rfl rfl hk_a rfl rfl (fun _ _ h9 => absurd rfl h9) rfl (Or.inl rfl) ?_
  show WG _ _ _ _ _ _ _ (44, [(3, vI (nI (lnK 43 σ ar + max (lnK 43 σ ar + 1 - (lnK 43 σ ar)) ((lnK 43 σ ar) / 2)))), (2, vI (nI (lnK 43 σ ar))), (0, vR (some a)), (1, vI (nI (lnK 43 σ ar + 1)))], [vR (some q)], sO (sC (sA σ q 43 (lnK 43 σ ar + max (lnK 43 σ ar + 1 - (lnK 43 σ ar)) ((lnK 43 σ ar) / 2))) 430007 q (va_cpy (σ.2.1 430007 ar) (fun _ => none) 0 0 (lnK 43 σ ar))) 220100 a 0 (some q), 0 + 1, 0 + (lnK 43 σ ar + max (lnK 43 σ ar + 1 - (lnK 43 σ ar)) ((lnK 43 σ ar) / 2)))
  exact w_aret rfl rfl (Or.inr ⟨_, rfl⟩) (by omega) (by omega) (⟨q, hq, hqe, rfl, rfl⟩)

set_option maxHeartbeats 4000000 in
theorem c_al_growE_22 (l : Launch) (E : FE) (d : Nat) (σ : Sg) (a : Nat) (hd : 1 ≤ d) (hk : σ.2.2.2 a = 22) (he : σ.2.1 220100 a 0 = some (fe E)) : CT l E d 216 [vR (some a), vI 1] σ 1 10 (fun r σ' => ∃ q, σ.2.2.2 q = 0 ∧ q ≠ fe E ∧ r = some (vR (some q)) ∧ σ' = sO (sA σ q 43 10) 220100 a 0 (some q)) (fun _ _ => False) := by
  refine CTo ok_al_grow (by decide +kernel) rfl rfl rfl ?_
  refine w_run 1 (S' := (1, [(0, vR (some a)), (1, vI 1)], [vR (some a)], σ, 0, 0)) rfl ?_
  refine w_get (k := 22) (vR (σ.2.1 220100 a 0)) rfl rfl rfl hk rfl rfl ?_
  refine w_lenE rfl he ?_
  show WG _ _ _ _ _ _ _ (5, [(0, vR (some a)), (1, vI 1)], [vI 0], σ, 0, 0)
  refine w_run 2 (S' := (7, [(2, vI 0), (0, vR (some a)), (1, vI 1)], [vI 0], σ, 0, 0)) rfl ?_
  refine w_if_gt rfl (fun c1 => (absurd ((nI_ltI (a := 0) (b := 0) (by omega) (by omega)).mp c1) (by omega))) (fun c1 => ?_)
  have nc1 := mt (nI_ltI (a := 0) (b := 0) (by omega) (by omega)).mpr c1
  refine w_run 1 (S' := (11, [(2, vI 0), (0, vR (some a)), (1, vI 1)], [vR (some a)], σ, 0, 0)) rfl ?_
  refine w_get (k := 22) (vR (σ.2.1 220100 a 0)) rfl rfl rfl hk rfl rfl ?_
  refine w_getsE rfl lk_empty ?_
  refine w_ac_eq rfl (fun c2 => ?_) (fun c2 => (absurd he c2))
  refine w_run 3 (S' := (49, [(2, vI 0), (0, vR (some a)), (1, vI 1)], [vI 1, vI 10, vR (some a)], σ, 0, 0)) rfl ?_
  refine w_max rfl mx_9_79 rfl (by simp only [RM]; omega) (by simp only [RM]; omega) (by simp only [RM]; omega) (by simp only [RM]; omega) ?_
  refine w_newqO (k := 43) (N := 10) rfl lk_obj9 (show AK 43 7 by unfold AK; decide) (by decide) (by omega) (by simp only [RM]; omega) (by simp only [RM]; omega) (fun q hq hqe => ?_)
  have hn_a : a ≠ q := ne0 (hk) hq (by decide)
  have hk_a : (sA σ q 43 10).2.2.2 a = 22 := by simp only [sA, sI, sN]; rw [if_neg hn_a]; exact hk
  have hkq : (sA σ q 43 10).2.2.2 q = 43 := by simp [sA, sI, sN]
  show WG _ _ _ _ _ _ _ (55, [(2, vI 0), (0, vR (some a)), (1, vI 1)], [vR (some q), vR (some a)], sA σ q 43 10, 0 + 1, 0 + 10)
  refine w_run 1 (S' := (56, [(2, vI 0), (0, vR (some a)), (1, vI 1)], [vR (some q), vR (some a), vR (some q)], sA σ q 43 10, 0 + 1, 0 + 10)) rfl ?_
  refine w_putr (k := 22) rfl rfl rfl hk_a rfl rfl (fun _ _ h9 => absurd rfl h9) rfl (Or.inl rfl) ?_
  show WG _ _ _ _ _ _ _ (59, [(2, vI 0), (0, vR (some a)), (1, vI 1)], [vR (some q)], sO (sA σ q 43 10) 220100 a 0 (some q), 0 + 1, 0 + 10)
  exact w_aret rfl rfl (Or.inr ⟨_, rfl⟩) (by omega) (by omega) (⟨q, hq, hqe, rfl, rfl⟩)

set_option maxHeartbeats 4000000 in
theorem c_al_grow0_22 (l : Launch) (E : FE) (d : Nat) (σ : Sg) (a ar dd : Nat) (hd : dd + 5 ≤ d) (hk : σ.2.2.2 a = 22) (hka : σ.2.2.2 ar = 43) (he : σ.2.1 220100 a 0 = some ar) (hL1 : 1 ≤ lnK 43 σ ar) (hL2 : lnK 43 σ ar ≤ 300) (hs : σ.1 220200 a 0 = nI (lnK 43 σ ar)) : CT l E d 215 [vR (some a)] σ 1 (lnK 43 σ ar + max (lnK 43 σ ar + 1 - (lnK 43 σ ar)) ((lnK 43 σ ar) / 2)) (fun r σ' => ∃ q, σ.2.2.2 q = 0 ∧ q ≠ fe E ∧ r = some (vR (some q)) ∧ σ' = sO (sC (sA σ q 43 (lnK 43 σ ar + max (lnK 43 σ ar + 1 - (lnK 43 σ ar)) ((lnK 43 σ ar) / 2))) 430007 q (va_cpy (σ.2.1 430007 ar) (fun _ => none) 0 0 (lnK 43 σ ar))) 220100 a 0 (some q)) (fun _ _ => False) := by
  refine CTo ok_al_grow0 (by decide +kernel) rfl rfl rfl ?_
  refine w_run 2 (S' := (2, [(0, vR (some a))], [vR (some a), vR (some a)], σ, 0, 0)) rfl ?_
  refine w_get (k := 22) (vI (σ.1 220200 a 0)) rfl rfl rfl hk rfl rfl ?_
  refine Eq.mp (congrArg (fun x9 => WG _ _ _ _ _ _ _ (5, [(0, vR (some a))], [vI x9, vR (some a)], σ, 0, 0)) (hs.symm : nI (lnK 43 σ ar) = σ.1 220200 a 0)) ?_
  show WG _ _ _ _ _ _ _ (5, [(0, vR (some a))], [vI (nI (lnK 43 σ ar)), vR (some a)], σ, 0, 0)
  refine w_run 2 (S' := (7, [(0, vR (some a))], [vI ((nI (lnK 43 σ ar)) + 1), vR (some a)], σ, 0, 0)) rfl ?_
  rw [show ((nI (lnK 43 σ ar)) + 1 : Int32) = nI (lnK 43 σ ar + 1) from by simp only [nl0, nl1, nl2, nl3, nl4, nl5, nl6, nl8, nl9, nl10, nl12, nl15, nl16, nl20, nl24, nl32, nl40, nl64, nl65, nl384, pk_mul, nI_add]]
  show WG _ _ _ _ _ _ _ (7, [(0, vR (some a))], [vI (nI (lnK 43 σ ar + 1)), vR (some a)], σ, 0, 0)
  refine w_callV (st := []) [vI (nI (lnK 43 σ ar + 1))] rfl ml_9_69 rfl rfl hk rfl rfl rfl (by simp only [RM]; omega) (by simp only [RM]; show 8 + (4 + 11) + _ ≤ _; omega) rfl (by simp only [RM]; omega) (by simp only [RM]; omega) (c_al_grow_22 l E (dd + 4) σ a ar dd (by omega) hk hka he hL1 hL2) (fun _ _ h => h.elim) ?_
  intro r9 s9 q9
  obtain ⟨q, hq, hqe, e1, e2⟩ := q9
  rw [e1, e2]
  clear e1 e2 r9 s9
  show WG _ _ _ _ _ _ _ (10, [(0, vR (some a))], [vR (some q)], sO (sC (sA σ q 43 (lnK 43 σ ar + max (lnK 43 σ ar + 1 - (lnK 43 σ ar)) ((lnK 43 σ ar) / 2))) 430007 q (va_cpy (σ.2.1 430007 ar) (fun _ => none) 0 0 (lnK 43 σ ar))) 220100 a 0 (some q), 0 + 1, 0 + (lnK 43 σ ar + max (lnK 43 σ ar + 1 - (lnK 43 σ ar)) ((lnK 43 σ ar) / 2)))
  exact w_aret rfl rfl (Or.inr ⟨_, rfl⟩) (by omega) (by omega) (⟨q, hq, hqe, rfl, rfl⟩)

set_option maxHeartbeats 4000000 in
theorem c_al_grow0E_22 (l : Launch) (E : FE) (d : Nat) (σ : Sg) (a dd : Nat) (hd : dd + 2 ≤ d) (hk : σ.2.2.2 a = 22) (he : σ.2.1 220100 a 0 = some (fe E)) (hs : σ.1 220200 a 0 = nI 0) : CT l E d 215 [vR (some a)] σ 1 10 (fun r σ' => ∃ q, σ.2.2.2 q = 0 ∧ q ≠ fe E ∧ r = some (vR (some q)) ∧ σ' = sO (sA σ q 43 10) 220100 a 0 (some q)) (fun _ _ => False) := by
  refine CTo ok_al_grow0 (by decide +kernel) rfl rfl rfl ?_
  refine w_run 2 (S' := (2, [(0, vR (some a))], [vR (some a), vR (some a)], σ, 0, 0)) rfl ?_
  refine w_get (k := 22) (vI (σ.1 220200 a 0)) rfl rfl rfl hk rfl rfl ?_
  refine Eq.mp (congrArg (fun x9 => WG _ _ _ _ _ _ _ (5, [(0, vR (some a))], [vI x9, vR (some a)], σ, 0, 0)) (hs.symm : nI 0 = σ.1 220200 a 0)) ?_
  show WG _ _ _ _ _ _ _ (5, [(0, vR (some a))], [vI 0, vR (some a)], σ, 0, 0)
  refine w_run 2 (S' := (7, [(0, vR (some a))], [vI (0 + 1), vR (some a)], σ, 0, 0)) rfl ?_
  rw [show (0 + 1 : Int32) = nI (0 + 1) from by simp only [nl0, nl1, nl2, nl3, nl4, nl5, nl6, nl8, nl9, nl10, nl12, nl15, nl16, nl20, nl24, nl32, nl40, nl64, nl65, nl384, pk_mul, nI_add]]
  show WG _ _ _ _ _ _ _ (7, [(0, vR (some a))], [vI (nI (0 + 1)), vR (some a)], σ, 0, 0)
  refine w_callV (st := []) [vI (nI (0 + 1))] rfl ml_9_69 rfl rfl hk rfl rfl rfl (by simp only [RM]; omega) (by simp only [RM]; show 8 + (4 + 11) + _ ≤ _; omega) rfl (by simp only [RM]; omega) (by simp only [RM]; omega) (c_al_growE_22 l E (dd + 1) σ a (by omega) hk he) (fun _ _ h => h.elim) ?_
  intro r9 s9 q9
  obtain ⟨q, hq, hqe, e1, e2⟩ := q9
  rw [e1, e2]
  clear e1 e2 r9 s9
  show WG _ _ _ _ _ _ _ (10, [(0, vR (some a))], [vR (some q)], sO (sA σ q 43 10) 220100 a 0 (some q), 0 + 1, 0 + 10)
  exact w_aret rfl rfl (Or.inr ⟨_, rfl⟩) (by omega) (by omega) (⟨q, hq, hqe, rfl, rfl⟩)

set_option maxHeartbeats 4000000 in
theorem c_al_add3r_22 (l : Launch) (E : FE) (d : Nat) (σ : Sg) (a ar b n : Nat) (hk : σ.2.2.2 a = 22) (hka : σ.2.2.2 ar = 43) (hb : σ.2.2.2 b = 7) (hn : n < lnK 43 σ ar) (hL2 : lnK 43 σ ar ≤ 300) : CT l E d 214 [vR (some a), vR (some b), vR (some ar), vI (nI n)] σ 0 0 (fun r σ' => r = none ∧ σ' = sI (sO σ 430007 ar n (some b)) 220200 a 0 (nI (n + 1))) (fun _ _ => False) := by
  refine CTo ok_al_add3 (by decide +kernel) rfl rfl rfl ?_
  refine w_run 2 (S' := (2, [(0, vR (some a)), (1, vR (some b)), (2, vR (some ar)), (3, vI (nI n))], [vR (some ar), vI (nI n)], σ, 0, 0)) rfl ?_
  refine w_len (k := 43) rfl rfl hka (show AK 43 7 by unfold AK; decide) ?_
  show WG _ _ _ _ _ _ _ (3, [(0, vR (some a)), (1, vR (some b)), (2, vR (some ar)), (3, vI (nI n))], [vI (nI (lnK 43 σ ar)), vI (nI n)], σ, 0, 0)
  refine w_ic_ne rfl (fun c1 => ?_) (fun c1 => (absurd ((nI_eq (a := n) (b := lnK 43 σ ar) (by omega) (by omega)).mp c1) (by omega)))
  have nc1 := mt (nI_eq (a := n) (b := lnK 43 σ ar) (by omega) (by omega)).mpr c1
  refine w_run 3 (S' := (14, [(0, vR (some a)), (1, vR (some b)), (2, vR (some ar)), (3, vI (nI n))], [vR (some b), vI (nI n), vR (some ar)], σ, 0, 0)) rfl ?_
  refine w_aastM (k := 43) rfl rfl hka (show AK 43 7 by unfold AK; decide) rfl hb (show vp_in (nI n) (lnK 43 σ ar) from vp_in_nI (by omega) (by omega)) ?_
  show WG _ _ _ _ _ _ _ (15, [(0, vR (some a)), (1, vR (some b)), (2, vR (some ar)), (3, vI (nI n))], [], sO σ 430007 ar ((nI n).toNatClampNeg) (some b), 0, 0)
  rw [show (nI n : Int32).toNatClampNeg = n from nI_clamp (n := n) (by omega)]
  refine w_run 4 (S' := (19, [(0, vR (some a)), (1, vR (some b)), (2, vR (some ar)), (3, vI (nI n))], [vI ((nI n) + 1), vR (some a)], sO σ 430007 ar n (some b), 0, 0)) rfl ?_
  rw [show ((nI n) + 1 : Int32) = nI (n + 1) from by simp only [nl0, nl1, nl2, nl3, nl4, nl5, nl6, nl8, nl9, nl10, nl12, nl15, nl16, nl20, nl24, nl32, nl40, nl64, nl65, nl384, pk_mul, nI_add]]
  show WG _ _ _ _ _ _ _ (19, [(0, vR (some a)), (1, vR (some b)), (2, vR (some ar)), (3, vI (nI n))], [vI (nI (n + 1)), vR (some a)], sO σ 430007 ar n (some b), 0, 0)
  refine w_puti (k := 22) rfl rfl rfl hk rfl rfl (Or.inl rfl) (Or.inl rfl) ?_
  show WG _ _ _ _ _ _ _ (22, [(0, vR (some a)), (1, vR (some b)), (2, vR (some ar)), (3, vI (nI n))], [], sI (sO σ 430007 ar n (some b)) 220200 a 0 (nI (n + 1)), 0, 0)
  exact w_vret rfl rfl (by omega) (by omega) (⟨rfl, rfl⟩)

set_option maxHeartbeats 4000000 in
theorem c_al_add3m_22 (l : Launch) (E : FE) (d : Nat) (σ : Sg) (a ar b dd : Nat) (hd : dd + 6 ≤ d) (hk : σ.2.2.2 a = 22) (hka : σ.2.2.2 ar = 43) (hb : σ.2.2.2 b = 7) (he : σ.2.1 220100 a 0 = some ar) (hL1 : 1 ≤ lnK 43 σ ar) (hL2 : lnK 43 σ ar ≤ 300) (hs : σ.1 220200 a 0 = nI (lnK 43 σ ar)) : CT l E d 214 [vR (some a), vR (some b), vR (some ar), vI (nI (lnK 43 σ ar))] σ 1 (lnK 43 σ ar + max (lnK 43 σ ar + 1 - (lnK 43 σ ar)) ((lnK 43 σ ar) / 2)) (fun r σ' => ∃ q, σ.2.2.2 q = 0 ∧ q ≠ fe E ∧ r = none ∧ σ' = sI (sO (sO (sC (sA σ q 43 (lnK 43 σ ar + max (lnK 43 σ ar + 1 - (lnK 43 σ ar)) ((lnK 43 σ ar) / 2))) 430007 q (va_cpy (σ.2.1 430007 ar) (fun _ => none) 0 0 (lnK 43 σ ar))) 220100 a 0 (some q)) 430007 q (lnK 43 σ ar) (some b)) 220200 a 0 (nI (lnK 43 σ ar + 1))) (fun _ _ => False) := by
  refine CTo ok_al_add3 (by decide +kernel) rfl rfl rfl ?_
  refine w_run 2 (S' := (2, [(0, vR (some a)), (1, vR (some b)), (2, vR (some ar)), (3, vI (nI (lnK 43 σ ar)))], [vR (some ar), vI (nI (lnK 43 σ ar))], σ, 0, 0)) rfl ?_
  refine w_len (k := 43) rfl rfl hka (show AK 43 7 by unfold AK; decide) ?_
  show WG _ _ _ _ _ _ _ (3, [(0, vR (some a)), (1, vR (some b)), (2, vR (some ar)), (3, vI (nI (lnK 43 σ ar)))], [vI (nI (lnK 43 σ ar)), vI (nI (lnK 43 σ ar))], σ, 0, 0)
  refine w_ic_ne rfl (fun c1 => (absurd ((nI_eq (a := lnK 43 σ ar) (b := lnK 43 σ ar) (by omega) (by omega)).mpr (by omega)) c1)) (fun c1 => ?_)
  have nc1 := (nI_eq (a := lnK 43 σ ar) (b := lnK 43 σ ar) (by omega) (by omega)).mp c1
  refine w_run 1 (S' := (7, [(0, vR (some a)), (1, vR (some b)), (2, vR (some ar)), (3, vI (nI (lnK 43 σ ar)))], [vR (some a)], σ, 0, 0)) rfl ?_
  refine w_callV (st := []) [] rfl ml_9_129 rfl rfl hk rfl rfl rfl (by simp only [RM]; omega) (by simp only [RM]; show 8 + (1 + 11) + _ ≤ _; omega) rfl (by simp only [RM]; omega) (by simp only [RM]; omega) (c_al_grow0_22 l E (dd + 5) σ a ar dd (by omega) hk hka he hL1 hL2 hs) (fun _ _ h => h.elim) ?_
  intro r9 s9 q9
  obtain ⟨q, hq, hqe, e1, e2⟩ := q9
  rw [e1, e2]
  clear e1 e2 r9 s9
  have hn_a : a ≠ q := ne0 (hk) hq (by decide)
  have hk_a : (sO (sC (sA σ q 43 (lnK 43 σ ar + max (lnK 43 σ ar + 1 - (lnK 43 σ ar)) ((lnK 43 σ ar) / 2))) 430007 q (va_cpy (σ.2.1 430007 ar) (fun _ => none) 0 0 (lnK 43 σ ar))) 220100 a 0 (some q)).2.2.2 a = 22 := by show (if a = q then _ else _) = _; rw [if_neg hn_a]; exact hk
  have hn_b : b ≠ q := ne0 (hb) hq (by decide)
  have hk_b : (sO (sC (sA σ q 43 (lnK 43 σ ar + max (lnK 43 σ ar + 1 - (lnK 43 σ ar)) ((lnK 43 σ ar) / 2))) 430007 q (va_cpy (σ.2.1 430007 ar) (fun _ => none) 0 0 (lnK 43 σ ar))) 220100 a 0 (some q)).2.2.2 b = 7 := by show (if b = q then _ else _) = _; rw [if_neg hn_b]; exact hb
  have hkq : (sO (sC (sA σ q 43 (lnK 43 σ ar + max (lnK 43 σ ar + 1 - (lnK 43 σ ar)) ((lnK 43 σ ar) / 2))) 430007 q (va_cpy (σ.2.1 430007 ar) (fun _ => none) 0 0 (lnK 43 σ ar))) 220100 a 0 (some q)).2.2.2 q = 43 := by show (if q = q then _ else _) = _; rw [if_pos rfl]
  have hlq : lnK 43 (sO (sC (sA σ q 43 (lnK 43 σ ar + max (lnK 43 σ ar + 1 - (lnK 43 σ ar)) ((lnK 43 σ ar) / 2))) 430007 q (va_cpy (σ.2.1 430007 ar) (fun _ => none) 0 0 (lnK 43 σ ar))) 220100 a 0 (some q)) q = (lnK 43 σ ar + max (lnK 43 σ ar + 1 - (lnK 43 σ ar)) ((lnK 43 σ ar) / 2)) := sA_lenq (k := 43) (by omega)
  show WG _ _ _ _ _ _ _ (10, [(0, vR (some a)), (1, vR (some b)), (2, vR (some ar)), (3, vI (nI (lnK 43 σ ar)))], [vR (some q)], sO (sC (sA σ q 43 (lnK 43 σ ar + max (lnK 43 σ ar + 1 - (lnK 43 σ ar)) ((lnK 43 σ ar) / 2))) 430007 q (va_cpy (σ.2.1 430007 ar) (fun _ => none) 0 0 (lnK 43 σ ar))) 220100 a 0 (some q), 0 + 1, 0 + (lnK 43 σ ar + max (lnK 43 σ ar + 1 - (lnK 43 σ ar)) ((lnK 43 σ ar) / 2)))
  refine w_run 4 (S' := (14, [(2, vR (some q)), (0, vR (some a)), (1, vR (some b)), (3, vI (nI (lnK 43 σ ar)))], [vR (some b), vI (nI (lnK 43 σ ar)), vR (some q)], sO (sC (sA σ q 43 (lnK 43 σ ar + max (lnK 43 σ ar + 1 - (lnK 43 σ ar)) ((lnK 43 σ ar) / 2))) 430007 q (va_cpy (σ.2.1 430007 ar) (fun _ => none) 0 0 (lnK 43 σ ar))) 220100 a 0 (some q), 0 + 1, 0 + (lnK 43 σ ar + max (lnK 43 σ ar + 1 - (lnK 43 σ ar)) ((lnK 43 σ ar) / 2)))) rfl ?_
  refine w_aastM (k := 43) rfl rfl hkq (show AK 43 7 by unfold AK; decide) rfl hk_b (show vp_in (nI (lnK 43 σ ar)) (lnK 43 (sO (sC (sA σ q 43 (lnK 43 σ ar + max (lnK 43 σ ar + 1 - (lnK 43 σ ar)) ((lnK 43 σ ar) / 2))) 430007 q (va_cpy (σ.2.1 430007 ar) (fun _ => none) 0 0 (lnK 43 σ ar))) 220100 a 0 (some q)) q) from vp_in_nI (by rw [hlq]; omega) (by rw [hlq]; omega)) ?_
  show WG _ _ _ _ _ _ _ (15, [(2, vR (some q)), (0, vR (some a)), (1, vR (some b)), (3, vI (nI (lnK 43 σ ar)))], [], sO (sO (sC (sA σ q 43 (lnK 43 σ ar + max (lnK 43 σ ar + 1 - (lnK 43 σ ar)) ((lnK 43 σ ar) / 2))) 430007 q (va_cpy (σ.2.1 430007 ar) (fun _ => none) 0 0 (lnK 43 σ ar))) 220100 a 0 (some q)) 430007 q ((nI (lnK 43 σ ar)).toNatClampNeg) (some b), 0 + 1, 0 + (lnK 43 σ ar + max (lnK 43 σ ar + 1 - (lnK 43 σ ar)) ((lnK 43 σ ar) / 2)))
  rw [show (nI (lnK 43 σ ar) : Int32).toNatClampNeg = lnK 43 σ ar from nI_clamp (n := lnK 43 σ ar) (by omega)]
  refine w_run 4 (S' := (19, [(2, vR (some q)), (0, vR (some a)), (1, vR (some b)), (3, vI (nI (lnK 43 σ ar)))], [vI ((nI (lnK 43 σ ar)) + 1), vR (some a)], sO (sO (sC (sA σ q 43 (lnK 43 σ ar + max (lnK 43 σ ar + 1 - (lnK 43 σ ar)) ((lnK 43 σ ar) / 2))) 430007 q (va_cpy (σ.2.1 430007 ar) (fun _ => none) 0 0 (lnK 43 σ ar))) 220100 a 0 (some q)) 430007 q (lnK 43 σ ar) (some b), 0 + 1, 0 + (lnK 43 σ ar + max (lnK 43 σ ar + 1 - (lnK 43 σ ar)) ((lnK 43 σ ar) / 2)))) rfl ?_
  rw [show ((nI (lnK 43 σ ar)) + 1 : Int32) = nI (lnK 43 σ ar + 1) from by simp only [nl0, nl1, nl2, nl3, nl4, nl5, nl6, nl8, nl9, nl10, nl12, nl15, nl16, nl20, nl24, nl32, nl40, nl64, nl65, nl384, pk_mul, nI_add]]
  show WG _ _ _ _ _ _ _ (19, [(2, vR (some q)), (0, vR (some a)), (1, vR (some b)), (3, vI (nI (lnK 43 σ ar)))], [vI (nI (lnK 43 σ ar + 1)), vR (some a)], sO (sO (sC (sA σ q 43 (lnK 43 σ ar + max (lnK 43 σ ar + 1 - (lnK 43 σ ar)) ((lnK 43 σ ar) / 2))) 430007 q (va_cpy (σ.2.1 430007 ar) (fun _ => none) 0 0 (lnK 43 σ ar))) 220100 a 0 (some q)) 430007 q (lnK 43 σ ar) (some b), 0 + 1, 0 + (lnK 43 σ ar + max (lnK 43 σ ar + 1 - (lnK 43 σ ar)) ((lnK 43 σ ar) / 2)))
  refine w_puti (k := 22) rfl rfl rfl hk_a rfl rfl (Or.inl rfl) (Or.inl rfl) ?_
  show WG _ _ _ _ _ _ _ (22, [(2, vR (some q)), (0, vR (some a)), (1, vR (some b)), (3, vI (nI (lnK 43 σ ar)))], [], sI (sO (sO (sC (sA σ q 43 (lnK 43 σ ar + max (lnK 43 σ ar + 1 - (lnK 43 σ ar)) ((lnK 43 σ ar) / 2))) 430007 q (va_cpy (σ.2.1 430007 ar) (fun _ => none) 0 0 (lnK 43 σ ar))) 220100 a 0 (some q)) 430007 q (lnK 43 σ ar) (some b)) 220200 a 0 (nI (lnK 43 σ ar + 1)), 0 + 1, 0 + (lnK 43 σ ar + max (lnK 43 σ ar + 1 - (lnK 43 σ ar)) ((lnK 43 σ ar) / 2)))
  exact w_vret rfl rfl (by omega) (by omega) (⟨q, hq, hqe, rfl, rfl⟩)

set_option maxHeartbeats 4000000 in
theorem c_al_add3e_22 (l : Launch) (E : FE) (d : Nat) (σ : Sg) (a b dd : Nat) (hd : dd + 3 ≤ d) (hk : σ.2.2.2 a = 22) (hb : σ.2.2.2 b = 7) (he : σ.2.1 220100 a 0 = some (fe E)) (hs : σ.1 220200 a 0 = nI 0) : CT l E d 214 [vR (some a), vR (some b), vR (some (fe E)), vI 0] σ 1 10 (fun r σ' => ∃ q, σ.2.2.2 q = 0 ∧ q ≠ fe E ∧ r = none ∧ σ' = sI (sO (sO (sA σ q 43 10) 220100 a 0 (some q)) 430007 q (0) (some b)) 220200 a 0 (nI (0 + 1))) (fun _ _ => False) := by
  refine CTo ok_al_add3 (by decide +kernel) rfl rfl rfl ?_
  refine w_run 2 (S' := (2, [(0, vR (some a)), (1, vR (some b)), (2, vR (some (fe E))), (3, vI 0)], [vR (some (fe E)), vI 0], σ, 0, 0)) rfl ?_
  refine w_lenE rfl rfl ?_
  show WG _ _ _ _ _ _ _ (3, [(0, vR (some a)), (1, vR (some b)), (2, vR (some (fe E))), (3, vI 0)], [vI 0, vI 0], σ, 0, 0)
  refine w_ic_ne rfl (fun c1 => (absurd ((nI_eq (a := 0) (b := 0) (by omega) (by omega)).mpr (by omega)) c1)) (fun c1 => ?_)
  have nc1 := (nI_eq (a := 0) (b := 0) (by omega) (by omega)).mp c1
  refine w_run 1 (S' := (7, [(0, vR (some a)), (1, vR (some b)), (2, vR (some (fe E))), (3, vI 0)], [vR (some a)], σ, 0, 0)) rfl ?_
  refine w_callV (st := []) [] rfl ml_9_129 rfl rfl hk rfl rfl rfl (by simp only [RM]; omega) (by simp only [RM]; show 8 + (1 + 11) + _ ≤ _; omega) rfl (by simp only [RM]; omega) (by simp only [RM]; omega) (c_al_grow0E_22 l E (dd + 2) σ a dd (by omega) hk he hs) (fun _ _ h => h.elim) ?_
  intro r9 s9 q9
  obtain ⟨q, hq, hqe, e1, e2⟩ := q9
  rw [e1, e2]
  clear e1 e2 r9 s9
  have hn_a : a ≠ q := ne0 (hk) hq (by decide)
  have hk_a : (sO (sA σ q 43 10) 220100 a 0 (some q)).2.2.2 a = 22 := by show (if a = q then _ else _) = _; rw [if_neg hn_a]; exact hk
  have hn_b : b ≠ q := ne0 (hb) hq (by decide)
  have hk_b : (sO (sA σ q 43 10) 220100 a 0 (some q)).2.2.2 b = 7 := by show (if b = q then _ else _) = _; rw [if_neg hn_b]; exact hb
  have hkq : (sO (sA σ q 43 10) 220100 a 0 (some q)).2.2.2 q = 43 := by show (if q = q then _ else _) = _; rw [if_pos rfl]
  have hlq : lnK 43 (sO (sA σ q 43 10) 220100 a 0 (some q)) q = 10 := sA_lenq (k := 43) (by omega)
  show WG _ _ _ _ _ _ _ (10, [(0, vR (some a)), (1, vR (some b)), (2, vR (some (fe E))), (3, vI 0)], [vR (some q)], sO (sA σ q 43 10) 220100 a 0 (some q), 0 + 1, 0 + 10)
  refine w_run 4 (S' := (14, [(2, vR (some q)), (0, vR (some a)), (1, vR (some b)), (3, vI 0)], [vR (some b), vI 0, vR (some q)], sO (sA σ q 43 10) 220100 a 0 (some q), 0 + 1, 0 + 10)) rfl ?_
  refine w_aastM (k := 43) rfl rfl hkq (show AK 43 7 by unfold AK; decide) rfl hk_b (show vp_in (nI 0) (lnK 43 (sO (sA σ q 43 10) 220100 a 0 (some q)) q) from vp_in_nI (by rw [hlq]; omega) (by rw [hlq]; omega)) ?_
  show WG _ _ _ _ _ _ _ (15, [(2, vR (some q)), (0, vR (some a)), (1, vR (some b)), (3, vI 0)], [], sO (sO (sA σ q 43 10) 220100 a 0 (some q)) 430007 q ((0 : Int32).toNatClampNeg) (some b), 0 + 1, 0 + 10)
  rw [show (0 : Int32).toNatClampNeg = 0 from nI_clamp (n := 0) (by omega)]
  refine w_run 4 (S' := (19, [(2, vR (some q)), (0, vR (some a)), (1, vR (some b)), (3, vI 0)], [vI (0 + 1), vR (some a)], sO (sO (sA σ q 43 10) 220100 a 0 (some q)) 430007 q 0 (some b), 0 + 1, 0 + 10)) rfl ?_
  rw [show (0 + 1 : Int32) = nI (0 + 1) from by simp only [nl0, nl1, nl2, nl3, nl4, nl5, nl6, nl8, nl9, nl10, nl12, nl15, nl16, nl20, nl24, nl32, nl40, nl64, nl65, nl384, pk_mul, nI_add]]
  show WG _ _ _ _ _ _ _ (19, [(2, vR (some q)), (0, vR (some a)), (1, vR (some b)), (3, vI 0)], [vI (nI (0 + 1)), vR (some a)], sO (sO (sA σ q 43 10) 220100 a 0 (some q)) 430007 q 0 (some b), 0 + 1, 0 + 10)
  refine w_puti (k := 22) rfl rfl rfl hk_a rfl rfl (Or.inl rfl) (Or.inl rfl) ?_
  show WG _ _ _ _ _ _ _ (22, [(2, vR (some q)), (0, vR (some a)), (1, vR (some b)), (3, vI 0)], [], sI (sO (sO (sA σ q 43 10) 220100 a 0 (some q)) 430007 q 0 (some b)) 220200 a 0 (nI (0 + 1)), 0 + 1, 0 + 10)
  exact w_vret rfl rfl (by omega) (by omega) (⟨q, hq, hqe, rfl, rfl⟩)

set_option maxHeartbeats 4000000 in
theorem c_al_addr_22 (l : Launch) (E : FE) (d : Nat) (σ : Sg) (a ar b n dd : Nat) (hd : dd + 1 ≤ d) (hk : σ.2.2.2 a = 22) (hka : σ.2.2.2 ar = 43) (hb : σ.2.2.2 b = 7) (he : σ.2.1 220100 a 0 = some ar) (hs : σ.1 220200 a 0 = nI n) (hn : n < lnK 43 σ ar) (hL2 : lnK 43 σ ar ≤ 300) : CT l E d 204 [vR (some a), vR (some b)] σ 1 450 (fun r σ' => r = some (vI 1) ∧ σ' = sI (sO (sI σ 220000 a 0 (σ.1 220000 a 0 + 1)) 430007 ar n (some b)) 220200 a 0 (nI (n + 1))) (fun _ _ => False) := by
  refine CTo ok_al_add (by decide +kernel) rfl rfl rfl ?_
  refine w_run 2 (S' := (2, [(0, vR (some a)), (1, vR (some b))], [vR (some a), vR (some a)], σ, 0, 0)) rfl ?_
  refine w_get (k := 22) (vI (σ.1 220000 a 0)) rfl rfl rfl hk rfl rfl ?_
  refine w_run 2 (S' := (7, [(0, vR (some a)), (1, vR (some b))], [vI ((σ.1 220000 a 0) + 1), vR (some a)], σ, 0, 0)) rfl ?_
  refine w_puti (k := 22) rfl rfl rfl hk rfl rfl (Or.inl rfl) (Or.inl rfl) ?_
  show WG _ _ _ _ _ _ _ (10, [(0, vR (some a)), (1, vR (some b))], [], sI σ 220000 a 0 ((σ.1 220000 a 0) + 1), 0, 0)
  refine w_run 3 (S' := (13, [(0, vR (some a)), (1, vR (some b))], [vR (some a), vR (some b), vR (some a)], sI σ 220000 a 0 ((σ.1 220000 a 0) + 1), 0, 0)) rfl ?_
  refine w_get (k := 22) (vR (σ.2.1 220100 a 0)) rfl rfl rfl hk rfl rfl ?_
  refine w_run 1 (S' := (17, [(0, vR (some a)), (1, vR (some b))], [vR (some a), vR (σ.2.1 220100 a 0), vR (some b), vR (some a)], sI σ 220000 a 0 ((σ.1 220000 a 0) + 1), 0, 0)) rfl ?_
  refine w_get (k := 22) (vI (σ.1 220200 a 0)) rfl rfl rfl hk rfl rfl ?_
  refine Eq.mp (congrArg (fun x9 => WG _ _ _ _ _ _ _ (20, [(0, vR (some a)), (1, vR (some b))], [vI x9, vR (σ.2.1 220100 a 0), vR (some b), vR (some a)], sI σ 220000 a 0 ((σ.1 220000 a 0) + 1), 0, 0)) (hs.symm : nI n = σ.1 220200 a 0)) ?_
  show WG _ _ _ _ _ _ _ (20, [(0, vR (some a)), (1, vR (some b))], [vI (nI n), vR (σ.2.1 220100 a 0), vR (some b), vR (some a)], sI σ 220000 a 0 ((σ.1 220000 a 0) + 1), 0, 0)
  refine Eq.mp (congrArg (fun x9 => WG _ _ _ _ _ _ _ (20, [(0, vR (some a)), (1, vR (some b))], [vI (nI n), vR x9, vR (some b), vR (some a)], sI σ 220000 a 0 ((σ.1 220000 a 0) + 1), 0, 0)) (Eq.symm he : some ar = σ.2.1 220100 a 0)) ?_
  show WG _ _ _ _ _ _ _ (20, [(0, vR (some a)), (1, vR (some b))], [vI (nI n), vR (some ar), vR (some b), vR (some a)], sI σ 220000 a 0 ((σ.1 220000 a 0) + 1), 0, 0)
  refine w_callV (st := []) [vR (some b), vR (some ar), vI (nI n)] rfl ml_9_131 rfl rfl hk rfl rfl rfl (by simp only [RM]; omega) (by simp only [RM]; show 8 + (4 + 11) + _ ≤ _; omega) rfl (by simp only [RM]; omega) (by simp only [RM]; omega) (c_al_add3r_22 l E dd (sI σ 220000 a 0 (σ.1 220000 a 0 + 1)) a ar b n hk hka hb hn hL2) (fun _ _ h => h.elim) ?_
  intro r9 s9 q9
  rw [q9.1, q9.2]
  clear q9 r9 s9
  show WG _ _ _ _ _ _ _ (23, [(0, vR (some a)), (1, vR (some b))], [], sI (sO (sI σ 220000 a 0 (σ.1 220000 a 0 + 1)) 430007 ar n (some b)) 220200 a 0 (nI (n + 1)), 0, 0)
  refine w_run 1 (S' := (24, [(0, vR (some a)), (1, vR (some b))], [vI 1], sI (sO (sI σ 220000 a 0 (σ.1 220000 a 0 + 1)) 430007 ar n (some b)) 220200 a 0 (nI (n + 1)), 0, 0)) rfl ?_
  exact w_iret rfl (Or.inr ⟨rfl, Or.inr rfl⟩) (by omega) (by omega) (⟨rfl, rfl⟩)

set_option maxHeartbeats 4000000 in
theorem c_al_addm_22 (l : Launch) (E : FE) (d : Nat) (σ : Sg) (a ar b dd : Nat) (hd : dd + 7 ≤ d) (hk : σ.2.2.2 a = 22) (hka : σ.2.2.2 ar = 43) (hb : σ.2.2.2 b = 7) (he : σ.2.1 220100 a 0 = some ar) (hL1 : 1 ≤ lnK 43 σ ar) (hL2 : lnK 43 σ ar ≤ 300) (hs : σ.1 220200 a 0 = nI (lnK 43 σ ar)) : CT l E d 204 [vR (some a), vR (some b)] σ 1 450 (fun r σ' => ∃ q, σ.2.2.2 q = 0 ∧ q ≠ fe E ∧ r = some (vI 1) ∧ σ' = sI (sO (sO (sC (sA (sI σ 220000 a 0 (σ.1 220000 a 0 + 1)) q 43 (lnK 43 (sI σ 220000 a 0 (σ.1 220000 a 0 + 1)) ar + max (lnK 43 (sI σ 220000 a 0 (σ.1 220000 a 0 + 1)) ar + 1 - (lnK 43 (sI σ 220000 a 0 (σ.1 220000 a 0 + 1)) ar)) ((lnK 43 (sI σ 220000 a 0 (σ.1 220000 a 0 + 1)) ar) / 2))) 430007 q (va_cpy ((sI σ 220000 a 0 (σ.1 220000 a 0 + 1)).2.1 430007 ar) (fun _ => none) 0 0 (lnK 43 (sI σ 220000 a 0 (σ.1 220000 a 0 + 1)) ar))) 220100 a 0 (some q)) 430007 q (lnK 43 (sI σ 220000 a 0 (σ.1 220000 a 0 + 1)) ar) (some b)) 220200 a 0 (nI (lnK 43 (sI σ 220000 a 0 (σ.1 220000 a 0 + 1)) ar + 1))) (fun _ _ => False) := by
  have hL9 : lnK 43 (sI σ 220000 a 0 (σ.1 220000 a 0 + 1)) ar ≤ 300 := hL2
  refine CTo ok_al_add (by decide +kernel) rfl rfl rfl ?_
  refine w_run 2 (S' := (2, [(0, vR (some a)), (1, vR (some b))], [vR (some a), vR (some a)], σ, 0, 0)) rfl ?_
  refine w_get (k := 22) (vI (σ.1 220000 a 0)) rfl rfl rfl hk rfl rfl ?_
  refine w_run 2 (S' := (7, [(0, vR (some a)), (1, vR (some b))], [vI ((σ.1 220000 a 0) + 1), vR (some a)], σ, 0, 0)) rfl ?_
  refine w_puti (k := 22) rfl rfl rfl hk rfl rfl (Or.inl rfl) (Or.inl rfl) ?_
  show WG _ _ _ _ _ _ _ (10, [(0, vR (some a)), (1, vR (some b))], [], sI σ 220000 a 0 ((σ.1 220000 a 0) + 1), 0, 0)
  refine w_run 3 (S' := (13, [(0, vR (some a)), (1, vR (some b))], [vR (some a), vR (some b), vR (some a)], sI σ 220000 a 0 ((σ.1 220000 a 0) + 1), 0, 0)) rfl ?_
  refine w_get (k := 22) (vR (σ.2.1 220100 a 0)) rfl rfl rfl hk rfl rfl ?_
  refine w_run 1 (S' := (17, [(0, vR (some a)), (1, vR (some b))], [vR (some a), vR (σ.2.1 220100 a 0), vR (some b), vR (some a)], sI σ 220000 a 0 ((σ.1 220000 a 0) + 1), 0, 0)) rfl ?_
  refine w_get (k := 22) (vI (σ.1 220200 a 0)) rfl rfl rfl hk rfl rfl ?_
  refine Eq.mp (congrArg (fun x9 => WG _ _ _ _ _ _ _ (20, [(0, vR (some a)), (1, vR (some b))], [vI x9, vR (σ.2.1 220100 a 0), vR (some b), vR (some a)], sI σ 220000 a 0 ((σ.1 220000 a 0) + 1), 0, 0)) (hs.symm : nI (lnK 43 σ ar) = σ.1 220200 a 0)) ?_
  show WG _ _ _ _ _ _ _ (20, [(0, vR (some a)), (1, vR (some b))], [vI (nI (lnK 43 σ ar)), vR (σ.2.1 220100 a 0), vR (some b), vR (some a)], sI σ 220000 a 0 ((σ.1 220000 a 0) + 1), 0, 0)
  refine Eq.mp (congrArg (fun x9 => WG _ _ _ _ _ _ _ (20, [(0, vR (some a)), (1, vR (some b))], [vI (nI (lnK 43 σ ar)), vR x9, vR (some b), vR (some a)], sI σ 220000 a 0 ((σ.1 220000 a 0) + 1), 0, 0)) (Eq.symm he : some ar = σ.2.1 220100 a 0)) ?_
  show WG _ _ _ _ _ _ _ (20, [(0, vR (some a)), (1, vR (some b))], [vI (nI (lnK 43 σ ar)), vR (some ar), vR (some b), vR (some a)], sI σ 220000 a 0 ((σ.1 220000 a 0) + 1), 0, 0)
  refine w_callV (st := []) [vR (some b), vR (some ar), vI (nI (lnK 43 σ ar))] rfl ml_9_131 rfl rfl hk rfl rfl rfl (by simp only [RM]; omega) (by simp only [RM]; show 8 + (4 + 11) + _ ≤ _; omega) rfl (by simp only [RM]; omega) (by simp only [RM]; omega) (c_al_add3m_22 l E (dd + 6) (sI σ 220000 a 0 (σ.1 220000 a 0 + 1)) a ar b dd (by omega) hk hka hb he hL1 hL2 hs) (fun _ _ h => h.elim) ?_
  intro r9 s9 q9
  obtain ⟨q, hq, hqe, e1, e2⟩ := q9
  rw [e1, e2]
  clear e1 e2 r9 s9
  show WG _ _ _ _ _ _ _ (23, [(0, vR (some a)), (1, vR (some b))], [], sI (sO (sO (sC (sA (sI σ 220000 a 0 (σ.1 220000 a 0 + 1)) q 43 (lnK 43 (sI σ 220000 a 0 (σ.1 220000 a 0 + 1)) ar + max (lnK 43 (sI σ 220000 a 0 (σ.1 220000 a 0 + 1)) ar + 1 - (lnK 43 (sI σ 220000 a 0 (σ.1 220000 a 0 + 1)) ar)) ((lnK 43 (sI σ 220000 a 0 (σ.1 220000 a 0 + 1)) ar) / 2))) 430007 q (va_cpy ((sI σ 220000 a 0 (σ.1 220000 a 0 + 1)).2.1 430007 ar) (fun _ => none) 0 0 (lnK 43 (sI σ 220000 a 0 (σ.1 220000 a 0 + 1)) ar))) 220100 a 0 (some q)) 430007 q (lnK 43 (sI σ 220000 a 0 (σ.1 220000 a 0 + 1)) ar) (some b)) 220200 a 0 (nI (lnK 43 (sI σ 220000 a 0 (σ.1 220000 a 0 + 1)) ar + 1)), 0 + 1, 0 + (lnK 43 (sI σ 220000 a 0 (σ.1 220000 a 0 + 1)) ar + max (lnK 43 (sI σ 220000 a 0 (σ.1 220000 a 0 + 1)) ar + 1 - (lnK 43 (sI σ 220000 a 0 (σ.1 220000 a 0 + 1)) ar)) ((lnK 43 (sI σ 220000 a 0 (σ.1 220000 a 0 + 1)) ar) / 2)))
  refine w_run 1 (S' := (24, [(0, vR (some a)), (1, vR (some b))], [vI 1], sI (sO (sO (sC (sA (sI σ 220000 a 0 (σ.1 220000 a 0 + 1)) q 43 (lnK 43 (sI σ 220000 a 0 (σ.1 220000 a 0 + 1)) ar + max (lnK 43 (sI σ 220000 a 0 (σ.1 220000 a 0 + 1)) ar + 1 - (lnK 43 (sI σ 220000 a 0 (σ.1 220000 a 0 + 1)) ar)) ((lnK 43 (sI σ 220000 a 0 (σ.1 220000 a 0 + 1)) ar) / 2))) 430007 q (va_cpy ((sI σ 220000 a 0 (σ.1 220000 a 0 + 1)).2.1 430007 ar) (fun _ => none) 0 0 (lnK 43 (sI σ 220000 a 0 (σ.1 220000 a 0 + 1)) ar))) 220100 a 0 (some q)) 430007 q (lnK 43 (sI σ 220000 a 0 (σ.1 220000 a 0 + 1)) ar) (some b)) 220200 a 0 (nI (lnK 43 (sI σ 220000 a 0 (σ.1 220000 a 0 + 1)) ar + 1)), 0 + 1, 0 + (lnK 43 (sI σ 220000 a 0 (σ.1 220000 a 0 + 1)) ar + max (lnK 43 (sI σ 220000 a 0 (σ.1 220000 a 0 + 1)) ar + 1 - (lnK 43 (sI σ 220000 a 0 (σ.1 220000 a 0 + 1)) ar)) ((lnK 43 (sI σ 220000 a 0 (σ.1 220000 a 0 + 1)) ar) / 2)))) rfl ?_
  exact w_iret rfl (Or.inr ⟨rfl, Or.inr rfl⟩) (by omega) (by omega) (⟨q, hq, hqe, rfl, rfl⟩)

set_option maxHeartbeats 4000000 in
theorem c_al_adde_22 (l : Launch) (E : FE) (d : Nat) (σ : Sg) (a b dd : Nat) (hd : dd + 4 ≤ d) (hk : σ.2.2.2 a = 22) (hb : σ.2.2.2 b = 7) (he : σ.2.1 220100 a 0 = some (fe E)) (hs : σ.1 220200 a 0 = nI 0) : CT l E d 204 [vR (some a), vR (some b)] σ 1 450 (fun r σ' => ∃ q, σ.2.2.2 q = 0 ∧ q ≠ fe E ∧ r = some (vI 1) ∧ σ' = sI (sO (sO (sA (sI σ 220000 a 0 (σ.1 220000 a 0 + 1)) q 43 10) 220100 a 0 (some q)) 430007 q 0 (some b)) 220200 a 0 (nI (0 + 1))) (fun _ _ => False) := by
  refine CTo ok_al_add (by decide +kernel) rfl rfl rfl ?_
  refine w_run 2 (S' := (2, [(0, vR (some a)), (1, vR (some b))], [vR (some a), vR (some a)], σ, 0, 0)) rfl ?_
  refine w_get (k := 22) (vI (σ.1 220000 a 0)) rfl rfl rfl hk rfl rfl ?_
  refine w_run 2 (S' := (7, [(0, vR (some a)), (1, vR (some b))], [vI ((σ.1 220000 a 0) + 1), vR (some a)], σ, 0, 0)) rfl ?_
  refine w_puti (k := 22) rfl rfl rfl hk rfl rfl (Or.inl rfl) (Or.inl rfl) ?_
  show WG _ _ _ _ _ _ _ (10, [(0, vR (some a)), (1, vR (some b))], [], sI σ 220000 a 0 ((σ.1 220000 a 0) + 1), 0, 0)
  refine w_run 3 (S' := (13, [(0, vR (some a)), (1, vR (some b))], [vR (some a), vR (some b), vR (some a)], sI σ 220000 a 0 ((σ.1 220000 a 0) + 1), 0, 0)) rfl ?_
  refine w_get (k := 22) (vR (σ.2.1 220100 a 0)) rfl rfl rfl hk rfl rfl ?_
  refine w_run 1 (S' := (17, [(0, vR (some a)), (1, vR (some b))], [vR (some a), vR (σ.2.1 220100 a 0), vR (some b), vR (some a)], sI σ 220000 a 0 ((σ.1 220000 a 0) + 1), 0, 0)) rfl ?_
  refine w_get (k := 22) (vI (σ.1 220200 a 0)) rfl rfl rfl hk rfl rfl ?_
  refine Eq.mp (congrArg (fun x9 => WG _ _ _ _ _ _ _ (20, [(0, vR (some a)), (1, vR (some b))], [vI x9, vR (σ.2.1 220100 a 0), vR (some b), vR (some a)], sI σ 220000 a 0 ((σ.1 220000 a 0) + 1), 0, 0)) (hs.symm : nI 0 = σ.1 220200 a 0)) ?_
  show WG _ _ _ _ _ _ _ (20, [(0, vR (some a)), (1, vR (some b))], [vI 0, vR (σ.2.1 220100 a 0), vR (some b), vR (some a)], sI σ 220000 a 0 ((σ.1 220000 a 0) + 1), 0, 0)
  refine Eq.mp (congrArg (fun x9 => WG _ _ _ _ _ _ _ (20, [(0, vR (some a)), (1, vR (some b))], [vI 0, vR x9, vR (some b), vR (some a)], sI σ 220000 a 0 ((σ.1 220000 a 0) + 1), 0, 0)) (Eq.symm he : some (fe E) = σ.2.1 220100 a 0)) ?_
  show WG _ _ _ _ _ _ _ (20, [(0, vR (some a)), (1, vR (some b))], [vI 0, vR (some (fe E)), vR (some b), vR (some a)], sI σ 220000 a 0 ((σ.1 220000 a 0) + 1), 0, 0)
  refine w_callV (st := []) [vR (some b), vR (some (fe E)), vI 0] rfl ml_9_131 rfl rfl hk rfl rfl rfl (by simp only [RM]; omega) (by simp only [RM]; show 8 + (4 + 11) + _ ≤ _; omega) rfl (by simp only [RM]; omega) (by simp only [RM]; omega) (c_al_add3e_22 l E (dd + 3) (sI σ 220000 a 0 (σ.1 220000 a 0 + 1)) a b dd (by omega) hk hb he hs) (fun _ _ h => h.elim) ?_
  intro r9 s9 q9
  obtain ⟨q, hq, hqe, e1, e2⟩ := q9
  rw [e1, e2]
  clear e1 e2 r9 s9
  show WG _ _ _ _ _ _ _ (23, [(0, vR (some a)), (1, vR (some b))], [], sI (sO (sO (sA (sI σ 220000 a 0 (σ.1 220000 a 0 + 1)) q 43 10) 220100 a 0 (some q)) 430007 q 0 (some b)) 220200 a 0 (nI (0 + 1)), 0 + 1, 0 + 10)
  refine w_run 1 (S' := (24, [(0, vR (some a)), (1, vR (some b))], [vI 1], sI (sO (sO (sA (sI σ 220000 a 0 (σ.1 220000 a 0 + 1)) q 43 10) 220100 a 0 (some q)) 430007 q 0 (some b)) 220200 a 0 (nI (0 + 1)), 0 + 1, 0 + 10)) rfl ?_
  exact w_iret rfl (Or.inr ⟨rfl, Or.inr rfl⟩) (by omega) (by omega) (⟨q, hq, hqe, rfl, rfl⟩)

set_option maxHeartbeats 4000000 in
theorem c_al_size_22 (l : Launch) (E : FE) (d : Nat) (σ : Sg) (a : Nat) (hk : σ.2.2.2 a = 22) : CT l E d 201 [vR (some a)] σ 0 0 (fun r σ' => r = some (vI (σ.1 220200 a 0)) ∧ σ' = σ) (fun _ _ => False) := by
  refine CTo ok_al_size (by decide +kernel) rfl rfl rfl ?_
  refine w_run 1 (S' := (1, [(0, vR (some a))], [vR (some a)], σ, 0, 0)) rfl ?_
  refine w_get (k := 22) (vI (σ.1 220200 a 0)) rfl rfl rfl hk rfl rfl ?_
  exact w_iret rfl (Or.inl rfl) (by omega) (by omega) (⟨rfl, rfl⟩)

set_option maxHeartbeats 4000000 in
theorem c_al_isEmpty_22 (l : Launch) (E : FE) (d : Nat) (σ : Sg) (a : Nat) (hk : σ.2.2.2 a = 22) : CT l E d 202 [vR (some a)] σ 0 0 (fun r σ' => r = some (vI (if σ.1 220200 a 0 = 0 then 1 else 0)) ∧ σ' = σ) (fun _ _ => False) := by
  refine CTo ok_al_isEmpty (by decide +kernel) rfl rfl rfl ?_
  refine w_run 1 (S' := (1, [(0, vR (some a))], [vR (some a)], σ, 0, 0)) rfl ?_
  refine w_get (k := 22) (vI (σ.1 220200 a 0)) rfl rfl rfl hk rfl rfl ?_
  refine w_if_ne rfl (fun c1 => ?_) (fun c1 => ?_)
  · refine w_run 1 (S' := (12, [(0, vR (some a))], [vI 0], σ, 0, 0)) rfl ?_
    exact w_iret rfl (Or.inr ⟨rfl, Or.inl rfl⟩) (by omega) (by omega) (⟨by simp [c1], rfl⟩)
  · refine w_run 2 (S' := (12, [(0, vR (some a))], [vI 1], σ, 0, 0)) rfl ?_
    exact w_iret rfl (Or.inr ⟨rfl, Or.inr rfl⟩) (by omega) (by omega) (⟨by simp [c1], rfl⟩)

set_option maxHeartbeats 4000000 in
theorem c_al_elementData_22 (l : Launch) (E : FE) (d : Nat) (σ : Sg) (a ar i : Nat) (hk : σ.2.2.2 a = 22) (hka : σ.2.2.2 ar = 43) (he : σ.2.1 220100 a 0 = some ar) (hi : i < lnK 43 σ ar) (hL2 : lnK 43 σ ar ≤ 300) : CT l E d 213 [vR (some a), vI (nI i)] σ 0 0 (fun r σ' => r = some (vR (σ.2.1 430007 ar i)) ∧ σ' = σ) (fun _ _ => False) := by
  refine CTo ok_al_elementData (by decide +kernel) rfl rfl rfl ?_
  refine w_run 1 (S' := (1, [(0, vR (some a)), (1, vI (nI i))], [vR (some a)], σ, 0, 0)) rfl ?_
  refine w_get (k := 22) (vR (σ.2.1 220100 a 0)) rfl rfl rfl hk rfl rfl ?_
  refine w_run 1 (S' := (5, [(0, vR (some a)), (1, vI (nI i))], [vI (nI i), vR (σ.2.1 220100 a 0)], σ, 0, 0)) rfl ?_
  refine w_aald (k := 43) rfl he hka rfl rfl (show vp_in (nI i) (lnK 43 σ ar) from vp_in_nI (by omega) (by omega)) ?_
  show WG _ _ _ _ _ _ _ (6, [(0, vR (some a)), (1, vI (nI i))], [vR (σ.2.1 430007 ar (nI i).toNatClampNeg)], σ, 0, 0)
  rw [show (nI i : Int32).toNatClampNeg = i from nI_clamp (n := i) (by omega)]
  show WG _ _ _ _ _ _ _ (6, [(0, vR (some a)), (1, vI (nI i))], [vR (σ.2.1 430007 ar i)], σ, 0, 0)
  exact w_aret rfl rfl (Or.inl ⟨_, rfl⟩) (by omega) (by omega) (⟨rfl, rfl⟩)

set_option maxHeartbeats 4000000 in
theorem c_al_get_22 (l : Launch) (E : FE) (d : Nat) (σ : Sg) (a ar i n dd : Nat) (hd : dd + 2 ≤ d) (hk : σ.2.2.2 a = 22) (hka : σ.2.2.2 ar = 43) (he : σ.2.1 220100 a 0 = some ar) (hs : σ.1 220200 a 0 = nI n) (hi : i < n) (hn : n ≤ lnK 43 σ ar) (hL2 : lnK 43 σ ar ≤ 300) : CT l E d 203 [vR (some a), vI (nI i)] σ 0 0 (fun r σ' => r = some (vR (σ.2.1 430007 ar i)) ∧ σ' = σ) (fun _ _ => False) := by
  refine CTo ok_al_get (by decide +kernel) rfl rfl rfl ?_
  refine w_run 2 (S' := (2, [(0, vR (some a)), (1, vI (nI i))], [vR (some a), vI (nI i)], σ, 0, 0)) rfl ?_
  refine w_get (k := 22) (vI (σ.1 220200 a 0)) rfl rfl rfl hk rfl rfl ?_
  refine Eq.mp (congrArg (fun x9 => WG _ _ _ _ _ _ _ (5, [(0, vR (some a)), (1, vI (nI i))], [vI x9, vI (nI i)], σ, 0, 0)) (hs.symm : nI n = σ.1 220200 a 0)) ?_
  show WG _ _ _ _ _ _ _ (5, [(0, vR (some a)), (1, vI (nI i))], [vI (nI n), vI (nI i)], σ, 0, 0)
  refine w_callT (st := []) [vI (nI i), vI (nI n)] rfl ml_9_118 rfl (by simp only [RM]; omega) (by simp only [RM]; show 8 + (2 + 11) + _ ≤ _; omega) rfl (by simp only [RM]; omega) (by simp only [RM]; omega) (c_ob_checkIndex l E (dd + 1) σ i n dd (by omega) hi (by omega)) (fun _ _ h => h.elim) ?_
  intro r9 s9 q9
  rw [q9.1, q9.2]
  clear q9 r9 s9
  show WG _ _ _ _ _ _ _ (8, [(0, vR (some a)), (1, vI (nI i))], [vI (nI i)], σ, 0, 0)
  refine w_run 3 (S' := (11, [(0, vR (some a)), (1, vI (nI i))], [vI (nI i), vR (some a)], σ, 0, 0)) rfl ?_
  refine w_callV (st := []) [vI (nI i)] rfl ml_9_123 rfl rfl hk rfl rfl rfl (by simp only [RM]; omega) (by simp only [RM]; show 8 + (2 + 11) + _ ≤ _; omega) rfl (by simp only [RM]; omega) (by simp only [RM]; omega) (c_al_elementData_22 l E dd σ a ar i hk hka he (by omega) hL2) (fun _ _ h => h.elim) ?_
  intro r9 s9 q9
  rw [q9.1, q9.2]
  clear q9 r9 s9
  show WG _ _ _ _ _ _ _ (14, [(0, vR (some a)), (1, vI (nI i))], [vR (σ.2.1 430007 ar i)], σ, 0, 0)
  exact w_aret rfl rfl (Or.inl ⟨_, rfl⟩) (by omega) (by omega) (⟨rfl, rfl⟩)

def rm_22 (σ : Sg) (a ar n i : Nat) : Sg := if n - 1 ≤ i then sO (sI (sI σ 220000 a 0 (σ.1 220000 a 0 + 1)) 220200 a 0 (nI (n - 1))) 430007 ar (n - 1) none else sO (sI (sC (sI σ 220000 a 0 (σ.1 220000 a 0 + 1)) 430007 ar (va_cpy (σ.2.1 430007 ar) (σ.2.1 430007 ar) (i + 1) i (n - 1 - i))) 220200 a 0 (nI (n - 1))) 430007 ar (n - 1) none
set_option maxHeartbeats 4000000 in
theorem c_al_fastRemove_22 (l : Launch) (E : FE) (d : Nat) (σ : Sg) (a ar i n : Nat) (hd : 1 ≤ d) (hk : σ.2.2.2 a = 22) (hka : σ.2.2.2 ar = 43) (hs : σ.1 220200 a 0 = nI n) (hi : i < n) (hn : n ≤ lnK 43 σ ar) (hL2 : lnK 43 σ ar ≤ 300) : CT l E d 221 [vR (some a), vR (some ar), vI (nI i)] σ 0 0 (fun r σ' => r = none ∧ σ' = rm_22 σ a ar n i) (fun _ _ => False) := by
  refine CTo ok_al_fastRemove (by decide +kernel) rfl rfl rfl ?_
  refine w_run 2 (S' := (2, [(0, vR (some a)), (1, vR (some ar)), (2, vI (nI i))], [vR (some a), vR (some a)], σ, 0, 0)) rfl ?_
  refine w_get (k := 22) (vI (σ.1 220000 a 0)) rfl rfl rfl hk rfl rfl ?_
  refine w_run 2 (S' := (7, [(0, vR (some a)), (1, vR (some ar)), (2, vI (nI i))], [vI ((σ.1 220000 a 0) + 1), vR (some a)], σ, 0, 0)) rfl ?_
  refine w_puti (k := 22) rfl rfl rfl hk rfl rfl (Or.inl rfl) (Or.inl rfl) ?_
  show WG _ _ _ _ _ _ _ (10, [(0, vR (some a)), (1, vR (some ar)), (2, vI (nI i))], [], sI σ 220000 a 0 ((σ.1 220000 a 0) + 1), 0, 0)
  refine w_run 1 (S' := (11, [(0, vR (some a)), (1, vR (some ar)), (2, vI (nI i))], [vR (some a)], sI σ 220000 a 0 ((σ.1 220000 a 0) + 1), 0, 0)) rfl ?_
  refine w_get (k := 22) (vI (σ.1 220200 a 0)) rfl rfl rfl hk rfl rfl ?_
  refine Eq.mp (congrArg (fun x9 => WG _ _ _ _ _ _ _ (14, [(0, vR (some a)), (1, vR (some ar)), (2, vI (nI i))], [vI x9], sI σ 220000 a 0 ((σ.1 220000 a 0) + 1), 0, 0)) (hs.symm : nI n = σ.1 220200 a 0)) ?_
  show WG _ _ _ _ _ _ _ (14, [(0, vR (some a)), (1, vR (some ar)), (2, vI (nI i))], [vI (nI n)], sI σ 220000 a 0 ((σ.1 220000 a 0) + 1), 0, 0)
  refine w_run 5 (S' := (19, [(3, vI ((nI n) - 1)), (0, vR (some a)), (1, vR (some ar)), (2, vI (nI i))], [vI (nI i), vI ((nI n) - 1)], sI σ 220000 a 0 ((σ.1 220000 a 0) + 1), 0, 0)) rfl ?_
  rw [show ((nI n) - 1 : Int32) = nI (n - 1) from nI_sub9 (a := n) (b := 1) (by omega)]
  show WG _ _ _ _ _ _ _ (19, [(3, vI (nI (n - 1))), (0, vR (some a)), (1, vR (some ar)), (2, vI (nI i))], [vI (nI i), vI (nI (n - 1))], sI σ 220000 a 0 ((σ.1 220000 a 0) + 1), 0, 0)
  refine w_ic_le rfl (fun c1 => ?_) (fun c1 => ?_)
  · have nc1 := (nI_leI (a := n - 1) (b := i) (by omega) (by omega)).mp c1
    refine w_run 4 (S' := (38, [(3, vI (nI (n - 1))), (0, vR (some a)), (1, vR (some ar)), (2, vI (nI i))], [vI (nI (n - 1)), vR (some a), vI (nI (n - 1)), vR (some ar)], sI σ 220000 a 0 ((σ.1 220000 a 0) + 1), 0, 0)) rfl ?_
    refine w_puti (k := 22) rfl rfl rfl hk rfl rfl (Or.inl rfl) (Or.inl rfl) ?_
    show WG _ _ _ _ _ _ _ (41, [(3, vI (nI (n - 1))), (0, vR (some a)), (1, vR (some ar)), (2, vI (nI i))], [vI (nI (n - 1)), vR (some ar)], sI (sI σ 220000 a 0 ((σ.1 220000 a 0) + 1)) 220200 a 0 (nI (n - 1)), 0, 0)
    refine w_run 1 (S' := (42, [(3, vI (nI (n - 1))), (0, vR (some a)), (1, vR (some ar)), (2, vI (nI i))], [vR none, vI (nI (n - 1)), vR (some ar)], sI (sI σ 220000 a 0 ((σ.1 220000 a 0) + 1)) 220200 a 0 (nI (n - 1)), 0, 0)) rfl ?_
    refine w_aastN (k := 43) rfl rfl hka rfl (by decide) rfl (show vp_in (nI (n - 1)) (lnK 43 σ ar) from vp_in_nI (by omega) (by omega)) ?_
    show WG _ _ _ _ _ _ _ (43, [(3, vI (nI (n - 1))), (0, vR (some a)), (1, vR (some ar)), (2, vI (nI i))], [], sO (sI (sI σ 220000 a 0 ((σ.1 220000 a 0) + 1)) 220200 a 0 (nI (n - 1))) 430007 ar ((nI (n - 1)).toNatClampNeg) none, 0, 0)
    rw [show (nI (n - 1) : Int32).toNatClampNeg = n - 1 from nI_clamp (n := n - 1) (by omega)]
    exact w_vret rfl rfl (by omega) (by omega) (⟨rfl, by simp [rm_22, nc1]⟩)
  · have nc1 := mt (nI_leI (a := n - 1) (b := i) (by omega) (by omega)).mpr c1
    refine w_run 9 (S' := (31, [(3, vI (nI (n - 1))), (0, vR (some a)), (1, vR (some ar)), (2, vI (nI i))], [vI ((nI (n - 1)) - (nI i)), vI (nI i), vR (some ar), vI ((nI i) + 1), vR (some ar)], sI σ 220000 a 0 ((σ.1 220000 a 0) + 1), 0, 0)) rfl ?_
    rw [show ((nI (n - 1)) - (nI i) : Int32) = nI (n - 1 - i) from nI_sub9 (a := n - 1) (b := i) (by omega)]
    rw [show ((nI i) + 1 : Int32) = nI (i + 1) from by simp only [nl0, nl1, nl2, nl3, nl4, nl5, nl6, nl8, nl9, nl10, nl12, nl15, nl16, nl20, nl24, nl32, nl40, nl64, nl65, nl384, pk_mul, nI_add]]
    show WG _ _ _ _ _ _ _ (31, [(3, vI (nI (n - 1))), (0, vR (some a)), (1, vR (some ar)), (2, vI (nI i))], [vI (nI (n - 1 - i)), vI (nI i), vR (some ar), vI (nI (i + 1)), vR (some ar)], sI σ 220000 a 0 ((σ.1 220000 a 0) + 1), 0, 0)
    refine w_copy (k := 43) rfl lk_cp9 rfl rfl hka hka (show AK 43 7 by unfold AK; decide) (nI_pos (by omega)) (nI_pos (by omega)) (nI_pos (by omega)) (by rw [nI_clamp (by omega), nI_clamp (by omega)]; show _ ≤ lnK 43 σ ar; omega) (by rw [nI_clamp (by omega), nI_clamp (by omega)]; show _ ≤ lnK 43 σ ar; omega) rfl (by simp only [RM]; omega) (by simp only [RM]; omega) ?_
    show WG _ _ _ _ _ _ _ (34, [(3, vI (nI (n - 1))), (0, vR (some a)), (1, vR (some ar)), (2, vI (nI i))], [], sC (sI σ 220000 a 0 ((σ.1 220000 a 0) + 1)) 430007 ar (va_cpy ((sI σ 220000 a 0 ((σ.1 220000 a 0) + 1)).2.1 430007 ar) ((sI σ 220000 a 0 ((σ.1 220000 a 0) + 1)).2.1 430007 ar) (nI (i + 1) : Int32).toNatClampNeg (nI i : Int32).toNatClampNeg (nI (n - 1 - i) : Int32).toNatClampNeg), 0, 0)
    rw [nI_clamp (n := i + 1) (by omega), nI_clamp (n := i) (by omega), nI_clamp (n := n - 1 - i) (by omega)]
    show WG _ _ _ _ _ _ _ (34, [(3, vI (nI (n - 1))), (0, vR (some a)), (1, vR (some ar)), (2, vI (nI i))], [], sC (sI σ 220000 a 0 (σ.1 220000 a 0 + 1)) 430007 ar (va_cpy (σ.2.1 430007 ar) (σ.2.1 430007 ar) (i + 1) i (n - 1 - i)), 0, 0)
    refine w_run 4 (S' := (38, [(3, vI (nI (n - 1))), (0, vR (some a)), (1, vR (some ar)), (2, vI (nI i))], [vI (nI (n - 1)), vR (some a), vI (nI (n - 1)), vR (some ar)], sC (sI σ 220000 a 0 (σ.1 220000 a 0 + 1)) 430007 ar (va_cpy (σ.2.1 430007 ar) (σ.2.1 430007 ar) (i + 1) i (n - 1 - i)), 0, 0)) rfl ?_
    refine w_puti (k := 22) rfl rfl rfl hk rfl rfl (Or.inl rfl) (Or.inl rfl) ?_
    show WG _ _ _ _ _ _ _ (41, [(3, vI (nI (n - 1))), (0, vR (some a)), (1, vR (some ar)), (2, vI (nI i))], [vI (nI (n - 1)), vR (some ar)], sI (sC (sI σ 220000 a 0 (σ.1 220000 a 0 + 1)) 430007 ar (va_cpy (σ.2.1 430007 ar) (σ.2.1 430007 ar) (i + 1) i (n - 1 - i))) 220200 a 0 (nI (n - 1)), 0, 0)
    refine w_run 1 (S' := (42, [(3, vI (nI (n - 1))), (0, vR (some a)), (1, vR (some ar)), (2, vI (nI i))], [vR none, vI (nI (n - 1)), vR (some ar)], sI (sC (sI σ 220000 a 0 (σ.1 220000 a 0 + 1)) 430007 ar (va_cpy (σ.2.1 430007 ar) (σ.2.1 430007 ar) (i + 1) i (n - 1 - i))) 220200 a 0 (nI (n - 1)), 0, 0)) rfl ?_
    refine w_aastN (k := 43) rfl rfl hka rfl (by decide) rfl (show vp_in (nI (n - 1)) (lnK 43 σ ar) from vp_in_nI (by omega) (by omega)) ?_
    show WG _ _ _ _ _ _ _ (43, [(3, vI (nI (n - 1))), (0, vR (some a)), (1, vR (some ar)), (2, vI (nI i))], [], sO (sI (sC (sI σ 220000 a 0 (σ.1 220000 a 0 + 1)) 430007 ar (va_cpy (σ.2.1 430007 ar) (σ.2.1 430007 ar) (i + 1) i (n - 1 - i))) 220200 a 0 (nI (n - 1))) 430007 ar ((nI (n - 1)).toNatClampNeg) none, 0, 0)
    rw [show (nI (n - 1) : Int32).toNatClampNeg = n - 1 from nI_clamp (n := n - 1) (by omega)]
    exact w_vret rfl rfl (by omega) (by omega) (⟨rfl, by simp [rm_22, nc1]⟩)

set_option maxHeartbeats 4000000 in
theorem c_al_remove_22 (l : Launch) (E : FE) (d : Nat) (σ : Sg) (a ar i n dd : Nat) (hd : dd + 2 ≤ d) (hk : σ.2.2.2 a = 22) (hka : σ.2.2.2 ar = 43) (he : σ.2.1 220100 a 0 = some ar) (hs : σ.1 220200 a 0 = nI n) (hi : i < n) (hn : n ≤ lnK 43 σ ar) (hL2 : lnK 43 σ ar ≤ 300) : CT l E d 205 [vR (some a), vI (nI i)] σ 0 0 (fun r σ' => r = some (vR (σ.2.1 430007 ar i)) ∧ σ' = rm_22 σ a ar n i) (fun _ _ => False) := by
  refine CTo ok_al_remove (by decide +kernel) rfl rfl rfl ?_
  refine w_run 2 (S' := (2, [(0, vR (some a)), (1, vI (nI i))], [vR (some a), vI (nI i)], σ, 0, 0)) rfl ?_
  refine w_get (k := 22) (vI (σ.1 220200 a 0)) rfl rfl rfl hk rfl rfl ?_
  refine Eq.mp (congrArg (fun x9 => WG _ _ _ _ _ _ _ (5, [(0, vR (some a)), (1, vI (nI i))], [vI x9, vI (nI i)], σ, 0, 0)) (hs.symm : nI n = σ.1 220200 a 0)) ?_
  show WG _ _ _ _ _ _ _ (5, [(0, vR (some a)), (1, vI (nI i))], [vI (nI n), vI (nI i)], σ, 0, 0)
  refine w_callT (st := []) [vI (nI i), vI (nI n)] rfl ml_9_118 rfl (by simp only [RM]; omega) (by simp only [RM]; show 8 + (2 + 11) + _ ≤ _; omega) rfl (by simp only [RM]; omega) (by simp only [RM]; omega) (c_ob_checkIndex l E (dd + 1) σ i n dd (by omega) hi (by omega)) (fun _ _ h => h.elim) ?_
  intro r9 s9 q9
  rw [q9.1, q9.2]
  clear q9 r9 s9
  show WG _ _ _ _ _ _ _ (8, [(0, vR (some a)), (1, vI (nI i))], [vI (nI i)], σ, 0, 0)
  refine w_run 2 (S' := (10, [(0, vR (some a)), (1, vI (nI i))], [vR (some a)], σ, 0, 0)) rfl ?_
  refine w_get (k := 22) (vR (σ.2.1 220100 a 0)) rfl rfl rfl hk rfl rfl ?_
  refine w_run 3 (S' := (16, [(2, vR (σ.2.1 220100 a 0)), (0, vR (some a)), (1, vI (nI i))], [vI (nI i), vR (σ.2.1 220100 a 0)], σ, 0, 0)) rfl ?_
  refine w_aald (k := 43) rfl he hka rfl rfl (show vp_in (nI i) (lnK 43 σ ar) from vp_in_nI (by omega) (by omega)) ?_
  show WG _ _ _ _ _ _ _ (17, [(2, vR (σ.2.1 220100 a 0)), (0, vR (some a)), (1, vI (nI i))], [vR (σ.2.1 430007 ar (nI i).toNatClampNeg)], σ, 0, 0)
  rw [show (nI i : Int32).toNatClampNeg = i from nI_clamp (n := i) (by omega)]
  show WG _ _ _ _ _ _ _ (17, [(2, vR (σ.2.1 220100 a 0)), (0, vR (some a)), (1, vI (nI i))], [vR (σ.2.1 430007 ar i)], σ, 0, 0)
  refine w_run 4 (S' := (21, [(3, vR (σ.2.1 430007 ar i)), (2, vR (σ.2.1 220100 a 0)), (0, vR (some a)), (1, vI (nI i))], [vI (nI i), vR (σ.2.1 220100 a 0), vR (some a)], σ, 0, 0)) rfl ?_
  refine Eq.mp (congrArg (fun x9 => WG _ _ _ _ _ _ _ (21, [(3, vR (σ.2.1 430007 ar i)), (2, vR (σ.2.1 220100 a 0)), (0, vR (some a)), (1, vI (nI i))], [vI (nI i), vR x9, vR (some a)], σ, 0, 0)) (Eq.symm he : some ar = σ.2.1 220100 a 0)) ?_
  show WG _ _ _ _ _ _ _ (21, [(3, vR (σ.2.1 430007 ar i)), (2, vR (σ.2.1 220100 a 0)), (0, vR (some a)), (1, vI (nI i))], [vI (nI i), vR (some ar), vR (some a)], σ, 0, 0)
  refine w_callV (st := []) [vR (some ar), vI (nI i)] rfl ml_9_144 rfl rfl hk rfl rfl rfl (by simp only [RM]; omega) (by simp only [RM]; show 8 + (4 + 11) + _ ≤ _; omega) rfl (by simp only [RM]; omega) (by simp only [RM]; omega) (c_al_fastRemove_22 l E (dd + 1) σ a ar i n (by omega) hk hka hs hi hn hL2) (fun _ _ h => h.elim) ?_
  intro r9 s9 q9
  rw [q9.1, q9.2]
  clear q9 r9 s9
  show WG _ _ _ _ _ _ _ (24, [(3, vR (σ.2.1 430007 ar i)), (2, vR (σ.2.1 220100 a 0)), (0, vR (some a)), (1, vI (nI i))], [], rm_22 σ a ar n i, 0, 0)
  refine w_run 1 (S' := (25, [(3, vR (σ.2.1 430007 ar i)), (2, vR (σ.2.1 220100 a 0)), (0, vR (some a)), (1, vI (nI i))], [vR (σ.2.1 430007 ar i)], rm_22 σ a ar n i, 0, 0)) rfl ?_
  exact w_aret rfl rfl (Or.inl ⟨_, rfl⟩) (by omega) (by omega) (⟨rfl, rfl⟩)

def clr_22 (ar : Nat) : Nat → Sg → Sg := fun i τ => sO τ 430007 ar i none
set_option maxHeartbeats 4000000 in
theorem lk_al_clear_22 (l : Launch) (E : FE) (d : Nat) (σ : Sg) (a ar n : Nat) (h300 : n ≤ 300) {mc ms cs sl : Nat} {args : Array Value} {XX : State → Prop} {QF : State → List Frame → State → Prop} (hcs : cs ≤ mc) (hsl : sl ≤ ms) : ∀ (k i : Nat), i + k = n → ∀ (τ : Sg), τ.2.2.2 ar = 43 → (n ≤ lnK 43 τ ar ∧ lnK 43 τ ar ≤ 300) → (∀ (τ' : Sg), τ' = itF (clr_22 ar) k i τ → τ'.2.2.2 ar = 43 → (n ≤ lnK 43 τ' ar ∧ lnK 43 τ' ar ≤ 300) → WG l E (RM d mc ms) 206 args XX QF (42, [(1, vR (some ar)), (2, vI (nI n)), (0, vR (some a))], [], τ', cs, sl)) →
    WG l E (RM d mc ms) 206 args XX QF (27, [(3, vI (nI i)), (1, vR (some ar)), (2, vI (nI n)), (0, vR (some a))], [], τ, cs, sl) := by
  intro k
  induction k with
  | zero =>
    intro i hi τ hka hl K
    refine w_run 2 (S' := (29, [(3, vI (nI i)), (1, vR (some ar)), (2, vI (nI n)), (0, vR (some a))], [vI (nI n), vI (nI i)], τ, cs, sl)) rfl ?_
    refine w_ic_ge rfl (fun c1 => ?_) (fun c1 => (absurd ((nI_leI (a := n) (b := i) (by omega) (by omega)).mpr (by omega)) c1))
    have nc1 := (nI_leI (a := n) (b := i) (by omega) (by omega)).mp c1
    refine w_lsP [1, 2, 3] ?_
    show WG _ _ _ _ _ _ _ (42, [(1, vR (some ar)), (2, vI (nI n)), (0, vR (some a))], [], τ, cs, sl)
    exact K τ rfl hka hl
  | succ k ih =>
    intro i hi τ hka hl K
    refine w_run 2 (S' := (29, [(3, vI (nI i)), (1, vR (some ar)), (2, vI (nI n)), (0, vR (some a))], [vI (nI n), vI (nI i)], τ, cs, sl)) rfl ?_
    refine w_ic_ge rfl (fun c1 => (absurd ((nI_leI (a := n) (b := i) (by omega) (by omega)).mp c1) (by omega))) (fun c1 => ?_)
    have nc1 := mt (nI_leI (a := n) (b := i) (by omega) (by omega)).mpr c1
    refine w_run 3 (S' := (35, [(3, vI (nI i)), (1, vR (some ar)), (2, vI (nI n)), (0, vR (some a))], [vR none, vI (nI i), vR (some ar)], τ, cs, sl)) rfl ?_
    refine w_aastN (k := 43) rfl rfl hka rfl (by decide) rfl (show vp_in (nI i) (lnK 43 τ ar) from vp_in_nI (by omega) (by omega)) ?_
    show WG _ _ _ _ _ _ _ (36, [(3, vI (nI i)), (1, vR (some ar)), (2, vI (nI n)), (0, vR (some a))], [], sO τ 430007 ar ((nI i).toNatClampNeg) none, cs, sl)
    rw [show (nI i : Int32).toNatClampNeg = i from nI_clamp (n := i) (by omega)]
    refine w_run 2 (S' := (27, [(3, vI ((nI i) + 1)), (1, vR (some ar)), (2, vI (nI n)), (0, vR (some a))], [], sO τ 430007 ar i none, cs, sl)) rfl ?_
    rw [show ((nI i) + 1 : Int32) = nI (i + 1) from by simp only [nl0, nl1, nl2, nl3, nl4, nl5, nl6, nl8, nl9, nl10, nl12, nl15, nl16, nl20, nl24, nl32, nl40, nl64, nl65, nl384, pk_mul, nI_add]]
    show WG _ _ _ _ _ _ _ (27, [(3, vI (nI (i + 1))), (1, vR (some ar)), (2, vI (nI n)), (0, vR (some a))], [], sO τ 430007 ar i none, cs, sl)
    exact ih (i + 1) (by omega) (sO τ 430007 ar i none) (hka) (hl) (fun τ' e9 q90 q91 => K τ' (by rw [itF_succ, ← (show ((sO τ 430007 ar i none) : Sg) = (clr_22 ar) i τ from by simp [clr_22, c1])]; exact e9) q90 q91)
set_option maxHeartbeats 4000000 in
theorem c_al_clear_22 (l : Launch) (E : FE) (d : Nat) (σ : Sg) (a ar n : Nat) (hk : σ.2.2.2 a = 22) (hka : σ.2.2.2 ar = 43) (he : σ.2.1 220100 a 0 = some ar) (hs : σ.1 220200 a 0 = nI n) (hn : n ≤ lnK 43 σ ar) (hL2 : lnK 43 σ ar ≤ 300) : CT l E d 206 [vR (some a)] σ 0 0 (fun r σ' => r = none ∧ σ' = itF (clr_22 ar) n 0 (sI (sI σ 220000 a 0 (σ.1 220000 a 0 + 1)) 220200 a 0 0)) (fun _ _ => False) := by
  refine CTo ok_al_clear (by decide +kernel) rfl rfl rfl ?_
  refine w_run 2 (S' := (2, [(0, vR (some a))], [vR (some a), vR (some a)], σ, 0, 0)) rfl ?_
  refine w_get (k := 22) (vI (σ.1 220000 a 0)) rfl rfl rfl hk rfl rfl ?_
  refine w_run 2 (S' := (7, [(0, vR (some a))], [vI ((σ.1 220000 a 0) + 1), vR (some a)], σ, 0, 0)) rfl ?_
  refine w_puti (k := 22) rfl rfl rfl hk rfl rfl (Or.inl rfl) (Or.inl rfl) ?_
  show WG _ _ _ _ _ _ _ (10, [(0, vR (some a))], [], sI σ 220000 a 0 ((σ.1 220000 a 0) + 1), 0, 0)
  refine w_run 1 (S' := (11, [(0, vR (some a))], [vR (some a)], sI σ 220000 a 0 ((σ.1 220000 a 0) + 1), 0, 0)) rfl ?_
  refine w_get (k := 22) (vR (σ.2.1 220100 a 0)) rfl rfl rfl hk rfl rfl ?_
  refine w_run 2 (S' := (16, [(1, vR (σ.2.1 220100 a 0)), (0, vR (some a))], [vR (some a)], sI σ 220000 a 0 ((σ.1 220000 a 0) + 1), 0, 0)) rfl ?_
  refine w_get (k := 22) (vI (σ.1 220200 a 0)) rfl rfl rfl hk rfl rfl ?_
  refine Eq.mp (congrArg (fun x9 => WG _ _ _ _ _ _ _ (19, [(1, vR (σ.2.1 220100 a 0)), (0, vR (some a))], [vI x9], sI σ 220000 a 0 ((σ.1 220000 a 0) + 1), 0, 0)) (hs.symm : nI n = σ.1 220200 a 0)) ?_
  show WG _ _ _ _ _ _ _ (19, [(1, vR (σ.2.1 220100 a 0)), (0, vR (some a))], [vI (nI n)], sI σ 220000 a 0 ((σ.1 220000 a 0) + 1), 0, 0)
  refine w_run 4 (S' := (23, [(2, vI (nI n)), (1, vR (σ.2.1 220100 a 0)), (0, vR (some a))], [vI 0, vR (some a), vI 0], sI σ 220000 a 0 ((σ.1 220000 a 0) + 1), 0, 0)) rfl ?_
  refine w_puti (k := 22) rfl rfl rfl hk rfl rfl (Or.inl rfl) (Or.inl rfl) ?_
  show WG _ _ _ _ _ _ _ (26, [(2, vI (nI n)), (1, vR (σ.2.1 220100 a 0)), (0, vR (some a))], [vI 0], sI (sI σ 220000 a 0 ((σ.1 220000 a 0) + 1)) 220200 a 0 0, 0, 0)
  refine w_run 1 (S' := (27, [(3, vI 0), (2, vI (nI n)), (1, vR (σ.2.1 220100 a 0)), (0, vR (some a))], [], sI (sI σ 220000 a 0 ((σ.1 220000 a 0) + 1)) 220200 a 0 0, 0, 0)) rfl ?_
  refine Eq.mp (congrArg (fun x9 => WG _ _ _ _ _ _ _ (27, [(3, vI 0), (2, vI (nI n)), (1, vR x9), (0, vR (some a))], [], sI (sI σ 220000 a 0 ((σ.1 220000 a 0) + 1)) 220200 a 0 0, 0, 0)) (Eq.symm he : some ar = σ.2.1 220100 a 0)) ?_
  show WG _ _ _ _ _ _ _ (27, [(3, vI 0), (2, vI (nI n)), (1, vR (some ar)), (0, vR (some a))], [], sI (sI σ 220000 a 0 ((σ.1 220000 a 0) + 1)) 220200 a 0 0, 0, 0)
  refine w_lsP [0, 2, 1, 3] ?_
  show WG _ _ _ _ _ _ _ (27, [(3, vI 0), (1, vR (some ar)), (2, vI (nI n)), (0, vR (some a))], [], sI (sI σ 220000 a 0 ((σ.1 220000 a 0) + 1)) 220200 a 0 0, 0, 0)
  refine lk_al_clear_22 l E d σ a ar n (by omega) (Nat.le_refl _) (Nat.le_refl _) n 0 (by omega) (sI (sI σ 220000 a 0 (σ.1 220000 a 0 + 1)) 220200 a 0 0) hka ⟨hn, hL2⟩ (fun τ1 e1 _ _ => ?_)
  show WG _ _ _ _ _ _ _ (42, [(1, vR (some ar)), (2, vI (nI n)), (0, vR (some a))], [], τ1, 0, 0)
  exact w_vret rfl rfl (by omega) (by omega) (⟨rfl, e1⟩)

set_option maxHeartbeats 4000000 in
theorem c_al_clearE_22 (l : Launch) (E : FE) (d : Nat) (σ : Sg) (a : Nat) (hk : σ.2.2.2 a = 22) (he : σ.2.1 220100 a 0 = some (fe E)) (hs : σ.1 220200 a 0 = nI 0) : CT l E d 206 [vR (some a)] σ 0 0 (fun r σ' => r = none ∧ σ' = sI (sI σ 220000 a 0 (σ.1 220000 a 0 + 1)) 220200 a 0 0) (fun _ _ => False) := by
  refine CTo ok_al_clear (by decide +kernel) rfl rfl rfl ?_
  refine w_run 2 (S' := (2, [(0, vR (some a))], [vR (some a), vR (some a)], σ, 0, 0)) rfl ?_
  refine w_get (k := 22) (vI (σ.1 220000 a 0)) rfl rfl rfl hk rfl rfl ?_
  refine w_run 2 (S' := (7, [(0, vR (some a))], [vI ((σ.1 220000 a 0) + 1), vR (some a)], σ, 0, 0)) rfl ?_
  refine w_puti (k := 22) rfl rfl rfl hk rfl rfl (Or.inl rfl) (Or.inl rfl) ?_
  show WG _ _ _ _ _ _ _ (10, [(0, vR (some a))], [], sI σ 220000 a 0 ((σ.1 220000 a 0) + 1), 0, 0)
  refine w_run 1 (S' := (11, [(0, vR (some a))], [vR (some a)], sI σ 220000 a 0 ((σ.1 220000 a 0) + 1), 0, 0)) rfl ?_
  refine w_get (k := 22) (vR (σ.2.1 220100 a 0)) rfl rfl rfl hk rfl rfl ?_
  refine w_run 2 (S' := (16, [(1, vR (σ.2.1 220100 a 0)), (0, vR (some a))], [vR (some a)], sI σ 220000 a 0 ((σ.1 220000 a 0) + 1), 0, 0)) rfl ?_
  refine w_get (k := 22) (vI (σ.1 220200 a 0)) rfl rfl rfl hk rfl rfl ?_
  refine Eq.mp (congrArg (fun x9 => WG _ _ _ _ _ _ _ (19, [(1, vR (σ.2.1 220100 a 0)), (0, vR (some a))], [vI x9], sI σ 220000 a 0 ((σ.1 220000 a 0) + 1), 0, 0)) (hs.symm : nI 0 = σ.1 220200 a 0)) ?_
  show WG _ _ _ _ _ _ _ (19, [(1, vR (σ.2.1 220100 a 0)), (0, vR (some a))], [vI 0], sI σ 220000 a 0 ((σ.1 220000 a 0) + 1), 0, 0)
  refine w_run 4 (S' := (23, [(2, vI 0), (1, vR (σ.2.1 220100 a 0)), (0, vR (some a))], [vI 0, vR (some a), vI 0], sI σ 220000 a 0 ((σ.1 220000 a 0) + 1), 0, 0)) rfl ?_
  refine w_puti (k := 22) rfl rfl rfl hk rfl rfl (Or.inl rfl) (Or.inl rfl) ?_
  show WG _ _ _ _ _ _ _ (26, [(2, vI 0), (1, vR (σ.2.1 220100 a 0)), (0, vR (some a))], [vI 0], sI (sI σ 220000 a 0 ((σ.1 220000 a 0) + 1)) 220200 a 0 0, 0, 0)
  refine w_run 3 (S' := (29, [(3, vI 0), (2, vI 0), (1, vR (σ.2.1 220100 a 0)), (0, vR (some a))], [vI 0, vI 0], sI (sI σ 220000 a 0 ((σ.1 220000 a 0) + 1)) 220200 a 0 0, 0, 0)) rfl ?_
  refine w_ic_ge rfl (fun c1 => ?_) (fun c1 => (absurd ((nI_leI (a := 0) (b := 0) (by omega) (by omega)).mpr (by omega)) c1))
  have nc1 := (nI_leI (a := 0) (b := 0) (by omega) (by omega)).mp c1
  exact w_vret rfl rfl (by omega) (by omega) (⟨rfl, rfl⟩)


set_option maxHeartbeats 4000000 in
theorem c_ab_init_22 (l : Launch) (E : FE) (d : Nat) (σ : Sg) (a dd : Nat) (hd : dd + 2 ≤ d) (hk : σ.2.2.2 a = 22) : CT l E d 209 [vR (some a)] σ 0 0 (fun r σ' => r = none ∧ σ' = sI σ 220000 a 0 0) (fun _ _ => False) := by
  refine CTo ok_ab_init (by decide +kernel) rfl rfl rfl ?_
  refine w_run 1 (S' := (1, [(0, vR (some a))], [vR (some a)], σ, 0, 0)) rfl ?_
  refine w_callI (st := []) [] rfl ml_12_1 rfl rfl (by simp only [RM]; omega) (by simp only [RM]; show 8 + (1 + 11) + _ ≤ _; omega) rfl (by simp only [RM]; omega) (by simp only [RM]; omega) (c_ac_init_20 l E (dd + 1) σ a (by omega)) ?_
  intro r9 s9 q9
  rw [q9.1, q9.2]
  clear q9 r9 s9
  show WG _ _ _ _ _ _ _ (4, [(0, vR (some a))], [], σ, 0, 0)
  refine w_run 2 (S' := (6, [(0, vR (some a))], [vI 0, vR (some a)], σ, 0, 0)) rfl ?_
  refine w_puti (k := 22) rfl rfl rfl hk rfl rfl (Or.inl rfl) (Or.inl rfl) ?_
  show WG _ _ _ _ _ _ _ (9, [(0, vR (some a))], [], sI σ 220000 a 0 0, 0, 0)
  exact w_vret rfl rfl (by omega) (by omega) (⟨rfl, rfl⟩)

set_option maxHeartbeats 4000000 in
theorem c_al_init_22 (l : Launch) (E : FE) (d : Nat) (σ : Sg) (a dd : Nat) (hd : dd + 3 ≤ d) (hk : σ.2.2.2 a = 22) : CT l E d 200 [vR (some a)] σ 0 0 (fun r σ' => r = none ∧ σ' = sO (sI σ 220000 a 0 0) 220100 a 0 (some (fe E))) (fun _ _ => False) := by
  refine CTo ok_al_init (by decide +kernel) rfl rfl rfl ?_
  refine w_run 1 (S' := (1, [(0, vR (some a))], [vR (some a)], σ, 0, 0)) rfl ?_
  refine w_callI (st := []) [] rfl ml_9_1 rfl rfl (by simp only [RM]; omega) (by simp only [RM]; show 8 + (1 + 11) + _ ≤ _; omega) rfl (by simp only [RM]; omega) (by simp only [RM]; omega) (c_ab_init_22 l E (dd + 2) σ a dd (by omega) hk) ?_
  intro r9 s9 q9
  rw [q9.1, q9.2]
  clear q9 r9 s9
  show WG _ _ _ _ _ _ _ (4, [(0, vR (some a))], [], sI σ 220000 a 0 0, 0, 0)
  refine w_run 1 (S' := (5, [(0, vR (some a))], [vR (some a)], sI σ 220000 a 0 0, 0, 0)) rfl ?_
  refine w_getsE rfl lk_empty ?_
  refine w_putr (k := 22) rfl rfl rfl hk rfl rfl (fun _ _ h9 => absurd rfl h9) rfl (Or.inl rfl) ?_
  show WG _ _ _ _ _ _ _ (11, [(0, vR (some a))], [], sO (sI σ 220000 a 0 0) 220100 a 0 (some (fe E)), 0, 0)
  exact w_vret rfl rfl (by omega) (by omega) (⟨rfl, rfl⟩)

