/-! the wrappers of the law -/
set_option maxHeartbeats 4000000 in
theorem c_lw_born (l : Launch) (E : FE) (d : Nat) (σ : Sg) (x : Nat) (p0 : Int32) (mc ms : Nat) (Q : Sg → Prop) (XQ : String → Sg → Prop) (hd : 1 ≤ d) (hx : σ.2.2.2 x = 1) (hc : CT l E (d - 1) 47 [vR (some x), vI p0] σ mc ms (fun r s => r = none ∧ Q s) XQ) (hX : ∀ X s, XQ X s → X = "java/lang/IllegalArgumentException" ∨ X = "java/lang/IllegalStateException") : CT l E d 115 [vR (some x), vI p0] σ mc ms (fun r s => Q s ∧ r = some (vI 0) ∨ (XQ "java/lang/IllegalArgumentException" s ∧ r = some (vI 1)) ∨ (XQ "java/lang/IllegalStateException" s ∧ r = some (vI 2))) (fun _ _ => False) := by
  refine CToH ok_lw_born (by decide +kernel) rfl rfl ?_
  refine w_run 2 (S' := (2, [(0, vR (some x)), (1, vI p0)], [vI p0, vR (some x)], σ, 0, 0)) rfl ?_
  refine w_callV (st := []) [vI p0] rfl ml_11_7 rfl rfl hx rfl rfl rfl (by simp only [RM]; omega) (by simp only [RM]; show 8 + (3 + 11) + _ ≤ _; omega) rfl (by simp only [RM]; omega) (by simp only [RM]; omega) hc ?_ ?_
  · intro X9 s9 h9
    rcases hX X9 s9 h9 with rfl | rfl
    · refine x_catch [] (0, 5, 8, 13) [(0, 5, 11, 15)] rfl rfl (fun _ h => absurd h List.not_mem_nil) rfl (by decide) (fun q => ?_)
      show WG _ _ _ _ _ _ _ (8, [(0, vR (some x)), (1, vI p0)], [vR (some q)], s9, 0 + mc, 0 + ms)
      refine w_run 2 (S' := (10, [(2, vR (some q)), (0, vR (some x)), (1, vI p0)], [vI 1], s9, 0 + mc, 0 + ms)) rfl ?_
      exact w_iret rfl (Or.inl rfl) (by omega) (by omega) (Or.inr (Or.inl (⟨h9, rfl⟩)))
    · refine x_catch [(0, 5, 8, 13)] (0, 5, 11, 15) [] rfl rfl (List.forall_mem_cons.mpr ⟨⟨"java/lang/IllegalArgumentException", by decide, by decide⟩, fun _ h => absurd h List.not_mem_nil⟩) rfl (by decide) (fun q => ?_)
      show WG _ _ _ _ _ _ _ (11, [(0, vR (some x)), (1, vI p0)], [vR (some q)], s9, 0 + mc, 0 + ms)
      refine w_run 2 (S' := (13, [(2, vR (some q)), (0, vR (some x)), (1, vI p0)], [vI 2], s9, 0 + mc, 0 + ms)) rfl ?_
      exact w_iret rfl (Or.inl rfl) (by omega) (by omega) (Or.inr (Or.inr (⟨h9, rfl⟩)))
  · intro r9 s9 q9
    obtain ⟨rfl, q9⟩ := q9
    show WG _ _ _ _ _ _ _ (5, [(0, vR (some x)), (1, vI p0)], [], s9, 0 + mc, 0 + ms)
    refine w_run 2 (S' := (15, [(0, vR (some x)), (1, vI p0)], [vI 0], s9, 0 + mc, 0 + ms)) rfl ?_
    exact w_iret rfl (Or.inl rfl) (by omega) (by omega) (Or.inl ⟨q9, rfl⟩)
set_option maxHeartbeats 4000000 in
theorem c_lw_die (l : Launch) (E : FE) (d : Nat) (σ : Sg) (x : Nat) (p0 : Int32) (mc ms : Nat) (Q : Sg → Prop) (XQ : String → Sg → Prop) (hd : 1 ≤ d) (hx : σ.2.2.2 x = 1) (hc : CT l E (d - 1) 48 [vR (some x), vI p0] σ mc ms (fun r s => r = none ∧ Q s) XQ) (hX : ∀ X s, XQ X s → X = "java/lang/IllegalArgumentException" ∨ X = "java/lang/IllegalStateException") : CT l E d 116 [vR (some x), vI p0] σ mc ms (fun r s => Q s ∧ r = some (vI 0) ∨ (XQ "java/lang/IllegalArgumentException" s ∧ r = some (vI 1)) ∨ (XQ "java/lang/IllegalStateException" s ∧ r = some (vI 2))) (fun _ _ => False) := by
  refine CToH ok_lw_die (by decide +kernel) rfl rfl ?_
  refine w_run 2 (S' := (2, [(0, vR (some x)), (1, vI p0)], [vI p0, vR (some x)], σ, 0, 0)) rfl ?_
  refine w_callV (st := []) [vI p0] rfl ml_11_17 rfl rfl hx rfl rfl rfl (by simp only [RM]; omega) (by simp only [RM]; show 8 + (4 + 11) + _ ≤ _; omega) rfl (by simp only [RM]; omega) (by simp only [RM]; omega) hc ?_ ?_
  · intro X9 s9 h9
    rcases hX X9 s9 h9 with rfl | rfl
    · refine x_catch [] (0, 5, 8, 13) [(0, 5, 11, 15)] rfl rfl (fun _ h => absurd h List.not_mem_nil) rfl (by decide) (fun q => ?_)
      show WG _ _ _ _ _ _ _ (8, [(0, vR (some x)), (1, vI p0)], [vR (some q)], s9, 0 + mc, 0 + ms)
      refine w_run 2 (S' := (10, [(2, vR (some q)), (0, vR (some x)), (1, vI p0)], [vI 1], s9, 0 + mc, 0 + ms)) rfl ?_
      exact w_iret rfl (Or.inl rfl) (by omega) (by omega) (Or.inr (Or.inl (⟨h9, rfl⟩)))
    · refine x_catch [(0, 5, 8, 13)] (0, 5, 11, 15) [] rfl rfl (List.forall_mem_cons.mpr ⟨⟨"java/lang/IllegalArgumentException", by decide, by decide⟩, fun _ h => absurd h List.not_mem_nil⟩) rfl (by decide) (fun q => ?_)
      show WG _ _ _ _ _ _ _ (11, [(0, vR (some x)), (1, vI p0)], [vR (some q)], s9, 0 + mc, 0 + ms)
      refine w_run 2 (S' := (13, [(2, vR (some q)), (0, vR (some x)), (1, vI p0)], [vI 2], s9, 0 + mc, 0 + ms)) rfl ?_
      exact w_iret rfl (Or.inl rfl) (by omega) (by omega) (Or.inr (Or.inr (⟨h9, rfl⟩)))
  · intro r9 s9 q9
    obtain ⟨rfl, q9⟩ := q9
    show WG _ _ _ _ _ _ _ (5, [(0, vR (some x)), (1, vI p0)], [], s9, 0 + mc, 0 + ms)
    refine w_run 2 (S' := (15, [(0, vR (some x)), (1, vI p0)], [vI 0], s9, 0 + mc, 0 + ms)) rfl ?_
    exact w_iret rfl (Or.inl rfl) (by omega) (by omega) (Or.inl ⟨q9, rfl⟩)
set_option maxHeartbeats 4000000 in
theorem c_lw_serve (l : Launch) (E : FE) (d : Nat) (σ : Sg) (x : Nat) (p0 p1 : Int32) (o : Nat) (mc ms : Nat) (Q : Int32 → Sg → Prop) (XQ : String → Sg → Prop) (hd : 1 ≤ d) (hx : σ.2.2.2 x = 1) (hc : CT l E (d - 1) 49 [vR (some x), vI p0, vI p1] σ mc ms (fun r s => ∃ v, r = some (vI v) ∧ Q v s) XQ) (hX : ∀ X s, XQ X s → X = "java/lang/IllegalArgumentException" ∨ X = "java/lang/IllegalStateException") (ho : ∀ v s, Q v s → s.2.2.2 o = 90) : CT l E d 117 [vR (some x), vI p0, vI p1, vR (some o)] σ mc ms (fun r s => (∃ v s0, Q v s0 ∧ r = some (vI 0) ∧ s = sJ s0 o 0 (if v = 0 then 0 else 1)) ∨ (XQ "java/lang/IllegalArgumentException" s ∧ r = some (vI 1)) ∨ (XQ "java/lang/IllegalStateException" s ∧ r = some (vI 2))) (fun _ _ => False) := by
  refine CToH ok_lw_serve (by decide +kernel) rfl rfl ?_
  refine w_run 5 (S' := (5, [(0, vR (some x)), (1, vI p0), (2, vI p1), (3, vR (some o))], [vI p1, vI p0, vR (some x), vI 0, vR (some o)], σ, 0, 0)) rfl ?_
  refine w_callV (st := [vI 0, vR (some o)]) [vI p0, vI p1] rfl ml_11_20 rfl rfl hx rfl rfl rfl (by simp only [RM]; omega) (by simp only [RM]; show 8 + (4 + 11) + _ ≤ _; omega) rfl (by simp only [RM]; omega) (by simp only [RM]; omega) hc ?_ ?_
  · intro X9 s9 h9
    rcases hX X9 s9 h9 with rfl | rfl
    · refine x_catch [] (0, 17, 20, 13) [(0, 17, 24, 15)] rfl rfl (fun _ h => absurd h List.not_mem_nil) rfl (by decide) (fun q => ?_)
      show WG _ _ _ _ _ _ _ (20, [(0, vR (some x)), (1, vI p0), (2, vI p1), (3, vR (some o))], [vR (some q)], s9, 0 + mc, 0 + ms)
      refine w_run 2 (S' := (23, [(4, vR (some q)), (0, vR (some x)), (1, vI p0), (2, vI p1), (3, vR (some o))], [vI 1], s9, 0 + mc, 0 + ms)) rfl ?_
      exact w_iret rfl (Or.inl rfl) (by omega) (by omega) (Or.inr (Or.inl (⟨h9, rfl⟩)))
    · refine x_catch [(0, 17, 20, 13)] (0, 17, 24, 15) [] rfl rfl (List.forall_mem_cons.mpr ⟨⟨"java/lang/IllegalArgumentException", by decide, by decide⟩, fun _ h => absurd h List.not_mem_nil⟩) rfl (by decide) (fun q => ?_)
      show WG _ _ _ _ _ _ _ (24, [(0, vR (some x)), (1, vI p0), (2, vI p1), (3, vR (some o))], [vR (some q)], s9, 0 + mc, 0 + ms)
      refine w_run 2 (S' := (27, [(4, vR (some q)), (0, vR (some x)), (1, vI p0), (2, vI p1), (3, vR (some o))], [vI 2], s9, 0 + mc, 0 + ms)) rfl ?_
      exact w_iret rfl (Or.inl rfl) (by omega) (by omega) (Or.inr (Or.inr (⟨h9, rfl⟩)))
  · intro r9 s9 q9
    obtain ⟨v, rfl, q9⟩ := q9
    have ho9 := ho _ _ q9
    show WG _ _ _ _ _ _ _ (8, [(0, vR (some x)), (1, vI p0), (2, vI p1), (3, vR (some o))], [vI v, vI 0, vR (some o)], s9, 0 + mc, 0 + ms)
    refine w_if_eq rfl (fun c1 => ?_) (fun c1 => ?_)
    · refine w_run 1 (S' := (16, [(0, vR (some x)), (1, vI p0), (2, vI p1), (3, vR (some o))], [vL 0, vI 0, vR (some o)], s9, 0 + mc, 0 + ms)) rfl ?_
      refine w_last rfl rfl ho9 (vp_in_nI (n := 0) (by decide) (by decide)) ?_
      show WG _ _ _ _ _ _ _ (17, [(0, vR (some x)), (1, vI p0), (2, vI p1), (3, vR (some o))], [], sJ s9 o 0 0, 0 + mc, 0 + ms)
      refine w_run 2 (S' := (29, [(0, vR (some x)), (1, vI p0), (2, vI p1), (3, vR (some o))], [vI 0], sJ s9 o 0 0, 0 + mc, 0 + ms)) rfl ?_
      exact w_iret rfl (Or.inl rfl) (by omega) (by omega) (Or.inl ⟨v, s9, q9, rfl, by rw [if_pos c1]⟩)
    · refine w_run 2 (S' := (16, [(0, vR (some x)), (1, vI p0), (2, vI p1), (3, vR (some o))], [vL 1, vI 0, vR (some o)], s9, 0 + mc, 0 + ms)) rfl ?_
      refine w_last rfl rfl ho9 (vp_in_nI (n := 0) (by decide) (by decide)) ?_
      show WG _ _ _ _ _ _ _ (17, [(0, vR (some x)), (1, vI p0), (2, vI p1), (3, vR (some o))], [], sJ s9 o 0 1, 0 + mc, 0 + ms)
      refine w_run 2 (S' := (29, [(0, vR (some x)), (1, vI p0), (2, vI p1), (3, vR (some o))], [vI 0], sJ s9 o 0 1, 0 + mc, 0 + ms)) rfl ?_
      exact w_iret rfl (Or.inl rfl) (by omega) (by omega) (Or.inl ⟨v, s9, q9, rfl, by rw [if_neg c1]⟩)
set_option maxHeartbeats 4000000 in
theorem c_lw_manage (l : Launch) (E : FE) (d : Nat) (σ : Sg) (x : Nat) (p0 p1 : Int32) (o : Nat) (mc ms : Nat) (Q : Int32 → Sg → Prop) (XQ : String → Sg → Prop) (hd : 1 ≤ d) (hx : σ.2.2.2 x = 1) (hc : CT l E (d - 1) 50 [vR (some x), vI p0, vI p1] σ mc ms (fun r s => ∃ v, r = some (vI v) ∧ Q v s) XQ) (hX : ∀ X s, XQ X s → X = "java/lang/IllegalArgumentException" ∨ X = "java/lang/IllegalStateException") (ho : ∀ v s, Q v s → s.2.2.2 o = 90) : CT l E d 118 [vR (some x), vI p0, vI p1, vR (some o)] σ mc ms (fun r s => (∃ v s0, Q v s0 ∧ r = some (vI 0) ∧ s = sJ s0 o 0 (if v = 0 then 0 else 1)) ∨ (XQ "java/lang/IllegalArgumentException" s ∧ r = some (vI 1)) ∨ (XQ "java/lang/IllegalStateException" s ∧ r = some (vI 2))) (fun _ _ => False) := by
  refine CToH ok_lw_manage (by decide +kernel) rfl rfl ?_
  refine w_run 5 (S' := (5, [(0, vR (some x)), (1, vI p0), (2, vI p1), (3, vR (some o))], [vI p1, vI p0, vR (some x), vI 0, vR (some o)], σ, 0, 0)) rfl ?_
  refine w_callV (st := [vI 0, vR (some o)]) [vI p0, vI p1] rfl ml_11_24 rfl rfl hx rfl rfl rfl (by simp only [RM]; omega) (by simp only [RM]; show 8 + (4 + 11) + _ ≤ _; omega) rfl (by simp only [RM]; omega) (by simp only [RM]; omega) hc ?_ ?_
  · intro X9 s9 h9
    rcases hX X9 s9 h9 with rfl | rfl
    · refine x_catch [] (0, 17, 20, 13) [(0, 17, 24, 15)] rfl rfl (fun _ h => absurd h List.not_mem_nil) rfl (by decide) (fun q => ?_)
      show WG _ _ _ _ _ _ _ (20, [(0, vR (some x)), (1, vI p0), (2, vI p1), (3, vR (some o))], [vR (some q)], s9, 0 + mc, 0 + ms)
      refine w_run 2 (S' := (23, [(4, vR (some q)), (0, vR (some x)), (1, vI p0), (2, vI p1), (3, vR (some o))], [vI 1], s9, 0 + mc, 0 + ms)) rfl ?_
      exact w_iret rfl (Or.inl rfl) (by omega) (by omega) (Or.inr (Or.inl (⟨h9, rfl⟩)))
    · refine x_catch [(0, 17, 20, 13)] (0, 17, 24, 15) [] rfl rfl (List.forall_mem_cons.mpr ⟨⟨"java/lang/IllegalArgumentException", by decide, by decide⟩, fun _ h => absurd h List.not_mem_nil⟩) rfl (by decide) (fun q => ?_)
      show WG _ _ _ _ _ _ _ (24, [(0, vR (some x)), (1, vI p0), (2, vI p1), (3, vR (some o))], [vR (some q)], s9, 0 + mc, 0 + ms)
      refine w_run 2 (S' := (27, [(4, vR (some q)), (0, vR (some x)), (1, vI p0), (2, vI p1), (3, vR (some o))], [vI 2], s9, 0 + mc, 0 + ms)) rfl ?_
      exact w_iret rfl (Or.inl rfl) (by omega) (by omega) (Or.inr (Or.inr (⟨h9, rfl⟩)))
  · intro r9 s9 q9
    obtain ⟨v, rfl, q9⟩ := q9
    have ho9 := ho _ _ q9
    show WG _ _ _ _ _ _ _ (8, [(0, vR (some x)), (1, vI p0), (2, vI p1), (3, vR (some o))], [vI v, vI 0, vR (some o)], s9, 0 + mc, 0 + ms)
    refine w_if_eq rfl (fun c1 => ?_) (fun c1 => ?_)
    · refine w_run 1 (S' := (16, [(0, vR (some x)), (1, vI p0), (2, vI p1), (3, vR (some o))], [vL 0, vI 0, vR (some o)], s9, 0 + mc, 0 + ms)) rfl ?_
      refine w_last rfl rfl ho9 (vp_in_nI (n := 0) (by decide) (by decide)) ?_
      show WG _ _ _ _ _ _ _ (17, [(0, vR (some x)), (1, vI p0), (2, vI p1), (3, vR (some o))], [], sJ s9 o 0 0, 0 + mc, 0 + ms)
      refine w_run 2 (S' := (29, [(0, vR (some x)), (1, vI p0), (2, vI p1), (3, vR (some o))], [vI 0], sJ s9 o 0 0, 0 + mc, 0 + ms)) rfl ?_
      exact w_iret rfl (Or.inl rfl) (by omega) (by omega) (Or.inl ⟨v, s9, q9, rfl, by rw [if_pos c1]⟩)
    · refine w_run 2 (S' := (16, [(0, vR (some x)), (1, vI p0), (2, vI p1), (3, vR (some o))], [vL 1, vI 0, vR (some o)], s9, 0 + mc, 0 + ms)) rfl ?_
      refine w_last rfl rfl ho9 (vp_in_nI (n := 0) (by decide) (by decide)) ?_
      show WG _ _ _ _ _ _ _ (17, [(0, vR (some x)), (1, vI p0), (2, vI p1), (3, vR (some o))], [], sJ s9 o 0 1, 0 + mc, 0 + ms)
      refine w_run 2 (S' := (29, [(0, vR (some x)), (1, vI p0), (2, vI p1), (3, vR (some o))], [vI 0], sJ s9 o 0 1, 0 + mc, 0 + ms)) rfl ?_
      exact w_iret rfl (Or.inl rfl) (by omega) (by omega) (Or.inl ⟨v, s9, q9, rfl, by rw [if_neg c1]⟩)
set_option maxHeartbeats 4000000 in
theorem c_lw_item (l : Launch) (E : FE) (d : Nat) (σ : Sg) (x : Nat) (p0 p1 p2 : Int32) (o : Nat) (mc ms : Nat) (Q : Int32 → Sg → Prop) (XQ : String → Sg → Prop) (hd : 1 ≤ d) (hx : σ.2.2.2 x = 1) (hc : CT l E (d - 1) 51 [vR (some x), vI p0, vI p1, vI p2] σ mc ms (fun r s => ∃ v, r = some (vI v) ∧ Q v s) XQ) (hX : ∀ X s, XQ X s → X = "java/lang/IllegalArgumentException" ∨ X = "java/lang/IllegalStateException") (ho : ∀ v s, Q v s → s.2.2.2 o = 90) : CT l E d 119 [vR (some x), vI p0, vI p1, vI p2, vR (some o)] σ mc ms (fun r s => (∃ v s0, Q v s0 ∧ r = some (vI 0) ∧ s = sJ s0 o 0 (if v = 0 then 0 else 1)) ∨ (XQ "java/lang/IllegalArgumentException" s ∧ r = some (vI 1)) ∨ (XQ "java/lang/IllegalStateException" s ∧ r = some (vI 2))) (fun _ _ => False) := by
  refine CToH ok_lw_item (by decide +kernel) rfl rfl ?_
  refine w_run 6 (S' := (7, [(0, vR (some x)), (1, vI p0), (2, vI p1), (3, vI p2), (4, vR (some o))], [vI p2, vI p1, vI p0, vR (some x), vI 0, vR (some o)], σ, 0, 0)) rfl ?_
  refine w_callV (st := [vI 0, vR (some o)]) [vI p0, vI p1, vI p2] rfl ml_11_27 rfl rfl hx rfl rfl rfl (by simp only [RM]; omega) (by simp only [RM]; show 8 + (4 + 11) + _ ≤ _; omega) rfl (by simp only [RM]; omega) (by simp only [RM]; omega) hc ?_ ?_
  · intro X9 s9 h9
    rcases hX X9 s9 h9 with rfl | rfl
    · refine x_catch [] (0, 19, 22, 13) [(0, 19, 26, 15)] rfl rfl (fun _ h => absurd h List.not_mem_nil) rfl (by decide) (fun q => ?_)
      show WG _ _ _ _ _ _ _ (22, [(0, vR (some x)), (1, vI p0), (2, vI p1), (3, vI p2), (4, vR (some o))], [vR (some q)], s9, 0 + mc, 0 + ms)
      refine w_run 2 (S' := (25, [(5, vR (some q)), (0, vR (some x)), (1, vI p0), (2, vI p1), (3, vI p2), (4, vR (some o))], [vI 1], s9, 0 + mc, 0 + ms)) rfl ?_
      exact w_iret rfl (Or.inl rfl) (by omega) (by omega) (Or.inr (Or.inl (⟨h9, rfl⟩)))
    · refine x_catch [(0, 19, 22, 13)] (0, 19, 26, 15) [] rfl rfl (List.forall_mem_cons.mpr ⟨⟨"java/lang/IllegalArgumentException", by decide, by decide⟩, fun _ h => absurd h List.not_mem_nil⟩) rfl (by decide) (fun q => ?_)
      show WG _ _ _ _ _ _ _ (26, [(0, vR (some x)), (1, vI p0), (2, vI p1), (3, vI p2), (4, vR (some o))], [vR (some q)], s9, 0 + mc, 0 + ms)
      refine w_run 2 (S' := (29, [(5, vR (some q)), (0, vR (some x)), (1, vI p0), (2, vI p1), (3, vI p2), (4, vR (some o))], [vI 2], s9, 0 + mc, 0 + ms)) rfl ?_
      exact w_iret rfl (Or.inl rfl) (by omega) (by omega) (Or.inr (Or.inr (⟨h9, rfl⟩)))
  · intro r9 s9 q9
    obtain ⟨v, rfl, q9⟩ := q9
    have ho9 := ho _ _ q9
    show WG _ _ _ _ _ _ _ (10, [(0, vR (some x)), (1, vI p0), (2, vI p1), (3, vI p2), (4, vR (some o))], [vI v, vI 0, vR (some o)], s9, 0 + mc, 0 + ms)
    refine w_if_eq rfl (fun c1 => ?_) (fun c1 => ?_)
    · refine w_run 1 (S' := (18, [(0, vR (some x)), (1, vI p0), (2, vI p1), (3, vI p2), (4, vR (some o))], [vL 0, vI 0, vR (some o)], s9, 0 + mc, 0 + ms)) rfl ?_
      refine w_last rfl rfl ho9 (vp_in_nI (n := 0) (by decide) (by decide)) ?_
      show WG _ _ _ _ _ _ _ (19, [(0, vR (some x)), (1, vI p0), (2, vI p1), (3, vI p2), (4, vR (some o))], [], sJ s9 o 0 0, 0 + mc, 0 + ms)
      refine w_run 2 (S' := (31, [(0, vR (some x)), (1, vI p0), (2, vI p1), (3, vI p2), (4, vR (some o))], [vI 0], sJ s9 o 0 0, 0 + mc, 0 + ms)) rfl ?_
      exact w_iret rfl (Or.inl rfl) (by omega) (by omega) (Or.inl ⟨v, s9, q9, rfl, by rw [if_pos c1]⟩)
    · refine w_run 2 (S' := (18, [(0, vR (some x)), (1, vI p0), (2, vI p1), (3, vI p2), (4, vR (some o))], [vL 1, vI 0, vR (some o)], s9, 0 + mc, 0 + ms)) rfl ?_
      refine w_last rfl rfl ho9 (vp_in_nI (n := 0) (by decide) (by decide)) ?_
      show WG _ _ _ _ _ _ _ (19, [(0, vR (some x)), (1, vI p0), (2, vI p1), (3, vI p2), (4, vR (some o))], [], sJ s9 o 0 1, 0 + mc, 0 + ms)
      refine w_run 2 (S' := (31, [(0, vR (some x)), (1, vI p0), (2, vI p1), (3, vI p2), (4, vR (some o))], [vI 0], sJ s9 o 0 1, 0 + mc, 0 + ms)) rfl ?_
      exact w_iret rfl (Or.inl rfl) (by omega) (by omega) (Or.inl ⟨v, s9, q9, rfl, by rw [if_neg c1]⟩)
set_option maxHeartbeats 4000000 in
theorem c_lw_draft (l : Launch) (E : FE) (d : Nat) (σ : Sg) (x : Nat) (p0 p1 : Int32) (o : Nat) (mc ms : Nat) (Q : Int32 → Sg → Prop) (XQ : String → Sg → Prop) (hd : 1 ≤ d) (hx : σ.2.2.2 x = 1) (hc : CT l E (d - 1) 52 [vR (some x), vI p0, vI p1] σ mc ms (fun r s => ∃ v, r = some (vI v) ∧ Q v s) XQ) (hX : ∀ X s, XQ X s → X = "java/lang/IllegalArgumentException" ∨ X = "java/lang/IllegalStateException") (ho : ∀ v s, Q v s → s.2.2.2 o = 90) : CT l E d 120 [vR (some x), vI p0, vI p1, vR (some o)] σ mc ms (fun r s => (∃ v s0, Q v s0 ∧ r = some (vI 0) ∧ s = sJ s0 o 0 (if v = 0 then 0 else 1)) ∨ (XQ "java/lang/IllegalArgumentException" s ∧ r = some (vI 1)) ∨ (XQ "java/lang/IllegalStateException" s ∧ r = some (vI 2))) (fun _ _ => False) := by
  refine CToH ok_lw_draft (by decide +kernel) rfl rfl ?_
  refine w_run 5 (S' := (5, [(0, vR (some x)), (1, vI p0), (2, vI p1), (3, vR (some o))], [vI p1, vI p0, vR (some x), vI 0, vR (some o)], σ, 0, 0)) rfl ?_
  refine w_callV (st := [vI 0, vR (some o)]) [vI p0, vI p1] rfl ml_11_31 rfl rfl hx rfl rfl rfl (by simp only [RM]; omega) (by simp only [RM]; show 8 + (4 + 11) + _ ≤ _; omega) rfl (by simp only [RM]; omega) (by simp only [RM]; omega) hc ?_ ?_
  · intro X9 s9 h9
    rcases hX X9 s9 h9 with rfl | rfl
    · refine x_catch [] (0, 17, 20, 13) [(0, 17, 24, 15)] rfl rfl (fun _ h => absurd h List.not_mem_nil) rfl (by decide) (fun q => ?_)
      show WG _ _ _ _ _ _ _ (20, [(0, vR (some x)), (1, vI p0), (2, vI p1), (3, vR (some o))], [vR (some q)], s9, 0 + mc, 0 + ms)
      refine w_run 2 (S' := (23, [(4, vR (some q)), (0, vR (some x)), (1, vI p0), (2, vI p1), (3, vR (some o))], [vI 1], s9, 0 + mc, 0 + ms)) rfl ?_
      exact w_iret rfl (Or.inl rfl) (by omega) (by omega) (Or.inr (Or.inl (⟨h9, rfl⟩)))
    · refine x_catch [(0, 17, 20, 13)] (0, 17, 24, 15) [] rfl rfl (List.forall_mem_cons.mpr ⟨⟨"java/lang/IllegalArgumentException", by decide, by decide⟩, fun _ h => absurd h List.not_mem_nil⟩) rfl (by decide) (fun q => ?_)
      show WG _ _ _ _ _ _ _ (24, [(0, vR (some x)), (1, vI p0), (2, vI p1), (3, vR (some o))], [vR (some q)], s9, 0 + mc, 0 + ms)
      refine w_run 2 (S' := (27, [(4, vR (some q)), (0, vR (some x)), (1, vI p0), (2, vI p1), (3, vR (some o))], [vI 2], s9, 0 + mc, 0 + ms)) rfl ?_
      exact w_iret rfl (Or.inl rfl) (by omega) (by omega) (Or.inr (Or.inr (⟨h9, rfl⟩)))
  · intro r9 s9 q9
    obtain ⟨v, rfl, q9⟩ := q9
    have ho9 := ho _ _ q9
    show WG _ _ _ _ _ _ _ (8, [(0, vR (some x)), (1, vI p0), (2, vI p1), (3, vR (some o))], [vI v, vI 0, vR (some o)], s9, 0 + mc, 0 + ms)
    refine w_if_eq rfl (fun c1 => ?_) (fun c1 => ?_)
    · refine w_run 1 (S' := (16, [(0, vR (some x)), (1, vI p0), (2, vI p1), (3, vR (some o))], [vL 0, vI 0, vR (some o)], s9, 0 + mc, 0 + ms)) rfl ?_
      refine w_last rfl rfl ho9 (vp_in_nI (n := 0) (by decide) (by decide)) ?_
      show WG _ _ _ _ _ _ _ (17, [(0, vR (some x)), (1, vI p0), (2, vI p1), (3, vR (some o))], [], sJ s9 o 0 0, 0 + mc, 0 + ms)
      refine w_run 2 (S' := (29, [(0, vR (some x)), (1, vI p0), (2, vI p1), (3, vR (some o))], [vI 0], sJ s9 o 0 0, 0 + mc, 0 + ms)) rfl ?_
      exact w_iret rfl (Or.inl rfl) (by omega) (by omega) (Or.inl ⟨v, s9, q9, rfl, by rw [if_pos c1]⟩)
    · refine w_run 2 (S' := (16, [(0, vR (some x)), (1, vI p0), (2, vI p1), (3, vR (some o))], [vL 1, vI 0, vR (some o)], s9, 0 + mc, 0 + ms)) rfl ?_
      refine w_last rfl rfl ho9 (vp_in_nI (n := 0) (by decide) (by decide)) ?_
      show WG _ _ _ _ _ _ _ (17, [(0, vR (some x)), (1, vI p0), (2, vI p1), (3, vR (some o))], [], sJ s9 o 0 1, 0 + mc, 0 + ms)
      refine w_run 2 (S' := (29, [(0, vR (some x)), (1, vI p0), (2, vI p1), (3, vR (some o))], [vI 0], sJ s9 o 0 1, 0 + mc, 0 + ms)) rfl ?_
      exact w_iret rfl (Or.inl rfl) (by omega) (by omega) (Or.inl ⟨v, s9, q9, rfl, by rw [if_neg c1]⟩)
set_option maxHeartbeats 4000000 in
theorem c_lw_send (l : Launch) (E : FE) (d : Nat) (σ : Sg) (x : Nat) (p0 p1 p2 : Int32) (o : Nat) (mc ms : Nat) (Q : Int32 → Sg → Prop) (XQ : String → Sg → Prop) (hd : 1 ≤ d) (hx : σ.2.2.2 x = 1) (hc : CT l E (d - 1) 53 [vR (some x), vI p0, vI p1, vI p2] σ mc ms (fun r s => ∃ v, r = some (vI v) ∧ Q v s) XQ) (hX : ∀ X s, XQ X s → X = "java/lang/IllegalArgumentException" ∨ X = "java/lang/IllegalStateException") (ho : ∀ v s, Q v s → s.2.2.2 o = 90) : CT l E d 121 [vR (some x), vI p0, vI p1, vI p2, vR (some o)] σ mc ms (fun r s => (∃ v s0, Q v s0 ∧ r = some (vI 0) ∧ s = sJ s0 o 0 v.toInt64) ∨ (XQ "java/lang/IllegalArgumentException" s ∧ r = some (vI 1)) ∨ (XQ "java/lang/IllegalStateException" s ∧ r = some (vI 2))) (fun _ _ => False) := by
  refine CToH ok_lw_send (by decide +kernel) rfl rfl ?_
  refine w_run 6 (S' := (7, [(0, vR (some x)), (1, vI p0), (2, vI p1), (3, vI p2), (4, vR (some o))], [vI p2, vI p1, vI p0, vR (some x), vI 0, vR (some o)], σ, 0, 0)) rfl ?_
  refine w_callV (st := [vI 0, vR (some o)]) [vI p0, vI p1, vI p2] rfl ml_11_34 rfl rfl hx rfl rfl rfl (by simp only [RM]; omega) (by simp only [RM]; show 8 + (7 + 11) + _ ≤ _; omega) rfl (by simp only [RM]; omega) (by simp only [RM]; omega) hc ?_ ?_
  · intro X9 s9 h9
    rcases hX X9 s9 h9 with rfl | rfl
    · refine x_catch [] (0, 12, 15, 13) [(0, 12, 19, 15)] rfl rfl (fun _ h => absurd h List.not_mem_nil) rfl (by decide) (fun q => ?_)
      show WG _ _ _ _ _ _ _ (15, [(0, vR (some x)), (1, vI p0), (2, vI p1), (3, vI p2), (4, vR (some o))], [vR (some q)], s9, 0 + mc, 0 + ms)
      refine w_run 2 (S' := (18, [(5, vR (some q)), (0, vR (some x)), (1, vI p0), (2, vI p1), (3, vI p2), (4, vR (some o))], [vI 1], s9, 0 + mc, 0 + ms)) rfl ?_
      exact w_iret rfl (Or.inl rfl) (by omega) (by omega) (Or.inr (Or.inl (⟨h9, rfl⟩)))
    · refine x_catch [(0, 12, 15, 13)] (0, 12, 19, 15) [] rfl rfl (List.forall_mem_cons.mpr ⟨⟨"java/lang/IllegalArgumentException", by decide, by decide⟩, fun _ h => absurd h List.not_mem_nil⟩) rfl (by decide) (fun q => ?_)
      show WG _ _ _ _ _ _ _ (19, [(0, vR (some x)), (1, vI p0), (2, vI p1), (3, vI p2), (4, vR (some o))], [vR (some q)], s9, 0 + mc, 0 + ms)
      refine w_run 2 (S' := (22, [(5, vR (some q)), (0, vR (some x)), (1, vI p0), (2, vI p1), (3, vI p2), (4, vR (some o))], [vI 2], s9, 0 + mc, 0 + ms)) rfl ?_
      exact w_iret rfl (Or.inl rfl) (by omega) (by omega) (Or.inr (Or.inr (⟨h9, rfl⟩)))
  · intro r9 s9 q9
    obtain ⟨v, rfl, q9⟩ := q9
    have ho9 := ho _ _ q9
    show WG _ _ _ _ _ _ _ (10, [(0, vR (some x)), (1, vI p0), (2, vI p1), (3, vI p2), (4, vR (some o))], [vI v, vI 0, vR (some o)], s9, 0 + mc, 0 + ms)
    refine w_run 1 (S' := (11, [(0, vR (some x)), (1, vI p0), (2, vI p1), (3, vI p2), (4, vR (some o))], [vL v.toInt64, vI 0, vR (some o)], s9, 0 + mc, 0 + ms)) rfl ?_
    refine w_last rfl rfl ho9 (vp_in_nI (n := 0) (by decide) (by decide)) ?_
    show WG _ _ _ _ _ _ _ (12, [(0, vR (some x)), (1, vI p0), (2, vI p1), (3, vI p2), (4, vR (some o))], [], sJ s9 o 0 v.toInt64, 0 + mc, 0 + ms)
    refine w_run 2 (S' := (24, [(0, vR (some x)), (1, vI p0), (2, vI p1), (3, vI p2), (4, vR (some o))], [vI 0], sJ s9 o 0 v.toInt64, 0 + mc, 0 + ms)) rfl ?_
    exact w_iret rfl (Or.inl rfl) (by omega) (by omega) (Or.inl ⟨v, s9, q9, rfl, rfl⟩)
set_option maxHeartbeats 4000000 in
theorem c_lw_take (l : Launch) (E : FE) (d : Nat) (σ : Sg) (x : Nat) (p0 : Int32) (o : Nat) (mc ms : Nat) (Q : Int32 → Sg → Prop) (XQ : String → Sg → Prop) (hd : 1 ≤ d) (hx : σ.2.2.2 x = 1) (hc : CT l E (d - 1) 54 [vR (some x), vI p0] σ mc ms (fun r s => ∃ v, r = some (vI v) ∧ Q v s) XQ) (hX : ∀ X s, XQ X s → X = "java/lang/IllegalArgumentException" ∨ X = "java/lang/IllegalStateException") (ho : ∀ v s, Q v s → s.2.2.2 o = 90) : CT l E d 122 [vR (some x), vI p0, vR (some o)] σ mc ms (fun r s => (∃ v s0, Q v s0 ∧ r = some (vI 0) ∧ s = sJ s0 o 0 v.toInt64) ∨ (XQ "java/lang/IllegalArgumentException" s ∧ r = some (vI 1)) ∨ (XQ "java/lang/IllegalStateException" s ∧ r = some (vI 2))) (fun _ _ => False) := by
  refine CToH ok_lw_take (by decide +kernel) rfl rfl ?_
  refine w_run 4 (S' := (4, [(0, vR (some x)), (1, vI p0), (2, vR (some o))], [vI p0, vR (some x), vI 0, vR (some o)], σ, 0, 0)) rfl ?_
  refine w_callV (st := [vI 0, vR (some o)]) [vI p0] rfl ml_11_38 rfl rfl hx rfl rfl rfl (by simp only [RM]; omega) (by simp only [RM]; show 8 + (4 + 11) + _ ≤ _; omega) rfl (by simp only [RM]; omega) (by simp only [RM]; omega) hc ?_ ?_
  · intro X9 s9 h9
    rcases hX X9 s9 h9 with rfl | rfl
    · refine x_catch [] (0, 9, 12, 13) [(0, 9, 15, 15)] rfl rfl (fun _ h => absurd h List.not_mem_nil) rfl (by decide) (fun q => ?_)
      show WG _ _ _ _ _ _ _ (12, [(0, vR (some x)), (1, vI p0), (2, vR (some o))], [vR (some q)], s9, 0 + mc, 0 + ms)
      refine w_run 2 (S' := (14, [(3, vR (some q)), (0, vR (some x)), (1, vI p0), (2, vR (some o))], [vI 1], s9, 0 + mc, 0 + ms)) rfl ?_
      exact w_iret rfl (Or.inl rfl) (by omega) (by omega) (Or.inr (Or.inl (⟨h9, rfl⟩)))
    · refine x_catch [(0, 9, 12, 13)] (0, 9, 15, 15) [] rfl rfl (List.forall_mem_cons.mpr ⟨⟨"java/lang/IllegalArgumentException", by decide, by decide⟩, fun _ h => absurd h List.not_mem_nil⟩) rfl (by decide) (fun q => ?_)
      show WG _ _ _ _ _ _ _ (15, [(0, vR (some x)), (1, vI p0), (2, vR (some o))], [vR (some q)], s9, 0 + mc, 0 + ms)
      refine w_run 2 (S' := (17, [(3, vR (some q)), (0, vR (some x)), (1, vI p0), (2, vR (some o))], [vI 2], s9, 0 + mc, 0 + ms)) rfl ?_
      exact w_iret rfl (Or.inl rfl) (by omega) (by omega) (Or.inr (Or.inr (⟨h9, rfl⟩)))
  · intro r9 s9 q9
    obtain ⟨v, rfl, q9⟩ := q9
    have ho9 := ho _ _ q9
    show WG _ _ _ _ _ _ _ (7, [(0, vR (some x)), (1, vI p0), (2, vR (some o))], [vI v, vI 0, vR (some o)], s9, 0 + mc, 0 + ms)
    refine w_run 1 (S' := (8, [(0, vR (some x)), (1, vI p0), (2, vR (some o))], [vL v.toInt64, vI 0, vR (some o)], s9, 0 + mc, 0 + ms)) rfl ?_
    refine w_last rfl rfl ho9 (vp_in_nI (n := 0) (by decide) (by decide)) ?_
    show WG _ _ _ _ _ _ _ (9, [(0, vR (some x)), (1, vI p0), (2, vR (some o))], [], sJ s9 o 0 v.toInt64, 0 + mc, 0 + ms)
    refine w_run 2 (S' := (19, [(0, vR (some x)), (1, vI p0), (2, vR (some o))], [vI 0], sJ s9 o 0 v.toInt64, 0 + mc, 0 + ms)) rfl ?_
    exact w_iret rfl (Or.inl rfl) (by omega) (by omega) (Or.inl ⟨v, s9, q9, rfl, rfl⟩)
set_option maxHeartbeats 4000000 in
theorem c_lw_latest (l : Launch) (E : FE) (d : Nat) (σ : Sg) (x : Nat) (p0 p1 : Int32) (o : Nat) (mc ms : Nat) (Q : Int32 → Sg → Prop) (XQ : String → Sg → Prop) (hd : 1 ≤ d) (hx : σ.2.2.2 x = 1) (hc : CT l E (d - 1) 55 [vR (some x), vI p0, vI p1] σ mc ms (fun r s => ∃ v, r = some (vI v) ∧ Q v s) XQ) (hX : ∀ X s, XQ X s → X = "java/lang/IllegalArgumentException" ∨ X = "java/lang/IllegalStateException" ∨ X = "java/util/NoSuchElementException") (ho : ∀ v s, Q v s → s.2.2.2 o = 90) : CT l E d 123 [vR (some x), vI p0, vI p1, vR (some o)] σ mc ms (fun r s => (∃ v s0, Q v s0 ∧ r = some (vI 0) ∧ s = sJ s0 o 0 v.toInt64) ∨ (XQ "java/lang/IllegalArgumentException" s ∧ r = some (vI 1)) ∨ (XQ "java/lang/IllegalStateException" s ∧ r = some (vI 2)) ∨ (XQ "java/util/NoSuchElementException" s ∧ r = some (vI 3))) (fun _ _ => False) := by
  refine CToH ok_lw_latest (by decide +kernel) rfl rfl ?_
  refine w_run 5 (S' := (5, [(0, vR (some x)), (1, vI p0), (2, vI p1), (3, vR (some o))], [vI p1, vI p0, vR (some x), vI 0, vR (some o)], σ, 0, 0)) rfl ?_
  refine w_callV (st := [vI 0, vR (some o)]) [vI p0, vI p1] rfl ml_11_42 rfl rfl hx rfl rfl rfl (by simp only [RM]; omega) (by simp only [RM]; show 8 + (4 + 11) + _ ≤ _; omega) rfl (by simp only [RM]; omega) (by simp only [RM]; omega) hc ?_ ?_
  · intro X9 s9 h9
    rcases hX X9 s9 h9 with rfl | rfl | rfl
    · refine x_catch [] (0, 10, 13, 13) [(0, 10, 17, 15), (0, 10, 21, 46)] rfl rfl (fun _ h => absurd h List.not_mem_nil) rfl (by decide) (fun q => ?_)
      show WG _ _ _ _ _ _ _ (13, [(0, vR (some x)), (1, vI p0), (2, vI p1), (3, vR (some o))], [vR (some q)], s9, 0 + mc, 0 + ms)
      refine w_run 2 (S' := (16, [(4, vR (some q)), (0, vR (some x)), (1, vI p0), (2, vI p1), (3, vR (some o))], [vI 1], s9, 0 + mc, 0 + ms)) rfl ?_
      exact w_iret rfl (Or.inl rfl) (by omega) (by omega) (Or.inr (Or.inl (⟨h9, rfl⟩)))
    · refine x_catch [(0, 10, 13, 13)] (0, 10, 17, 15) [(0, 10, 21, 46)] rfl rfl (List.forall_mem_cons.mpr ⟨⟨"java/lang/IllegalArgumentException", by decide, by decide⟩, fun _ h => absurd h List.not_mem_nil⟩) rfl (by decide) (fun q => ?_)
      show WG _ _ _ _ _ _ _ (17, [(0, vR (some x)), (1, vI p0), (2, vI p1), (3, vR (some o))], [vR (some q)], s9, 0 + mc, 0 + ms)
      refine w_run 2 (S' := (20, [(4, vR (some q)), (0, vR (some x)), (1, vI p0), (2, vI p1), (3, vR (some o))], [vI 2], s9, 0 + mc, 0 + ms)) rfl ?_
      exact w_iret rfl (Or.inl rfl) (by omega) (by omega) (Or.inr (Or.inr (Or.inl (⟨h9, rfl⟩))))
    · refine x_catch [(0, 10, 13, 13), (0, 10, 17, 15)] (0, 10, 21, 46) [] rfl rfl (List.forall_mem_cons.mpr ⟨⟨"java/lang/IllegalArgumentException", by decide, by decide⟩, List.forall_mem_cons.mpr ⟨⟨"java/lang/IllegalStateException", by decide, by decide⟩, fun _ h => absurd h List.not_mem_nil⟩⟩) rfl (by decide) (fun q => ?_)
      show WG _ _ _ _ _ _ _ (21, [(0, vR (some x)), (1, vI p0), (2, vI p1), (3, vR (some o))], [vR (some q)], s9, 0 + mc, 0 + ms)
      refine w_run 2 (S' := (24, [(4, vR (some q)), (0, vR (some x)), (1, vI p0), (2, vI p1), (3, vR (some o))], [vI 3], s9, 0 + mc, 0 + ms)) rfl ?_
      exact w_iret rfl (Or.inl rfl) (by omega) (by omega) (Or.inr (Or.inr (Or.inr (⟨h9, rfl⟩))))
  · intro r9 s9 q9
    obtain ⟨v, rfl, q9⟩ := q9
    have ho9 := ho _ _ q9
    show WG _ _ _ _ _ _ _ (8, [(0, vR (some x)), (1, vI p0), (2, vI p1), (3, vR (some o))], [vI v, vI 0, vR (some o)], s9, 0 + mc, 0 + ms)
    refine w_run 1 (S' := (9, [(0, vR (some x)), (1, vI p0), (2, vI p1), (3, vR (some o))], [vL v.toInt64, vI 0, vR (some o)], s9, 0 + mc, 0 + ms)) rfl ?_
    refine w_last rfl rfl ho9 (vp_in_nI (n := 0) (by decide) (by decide)) ?_
    show WG _ _ _ _ _ _ _ (10, [(0, vR (some x)), (1, vI p0), (2, vI p1), (3, vR (some o))], [], sJ s9 o 0 v.toInt64, 0 + mc, 0 + ms)
    refine w_run 2 (S' := (26, [(0, vR (some x)), (1, vI p0), (2, vI p1), (3, vR (some o))], [vI 0], sJ s9 o 0 v.toInt64, 0 + mc, 0 + ms)) rfl ?_
    exact w_iret rfl (Or.inl rfl) (by omega) (by omega) (Or.inl ⟨v, s9, q9, rfl, rfl⟩)
set_option maxHeartbeats 4000000 in
theorem c_lw_reply (l : Launch) (E : FE) (d : Nat) (σ : Sg) (x : Nat) (p0 : Int32) (o : Nat) (mc ms : Nat) (Q : Int32 → Sg → Prop) (XQ : String → Sg → Prop) (hd : 1 ≤ d) (hx : σ.2.2.2 x = 1) (hc : CT l E (d - 1) 56 [vR (some x), vI p0] σ mc ms (fun r s => ∃ v, r = some (vI v) ∧ Q v s) XQ) (hX : ∀ X s, XQ X s → X = "java/lang/IllegalArgumentException" ∨ X = "java/lang/IllegalStateException") (ho : ∀ v s, Q v s → s.2.2.2 o = 90) : CT l E d 124 [vR (some x), vI p0, vR (some o)] σ mc ms (fun r s => (∃ v s0, Q v s0 ∧ r = some (vI 0) ∧ s = sJ s0 o 0 v.toInt64) ∨ (XQ "java/lang/IllegalArgumentException" s ∧ r = some (vI 1)) ∨ (XQ "java/lang/IllegalStateException" s ∧ r = some (vI 2))) (fun _ _ => False) := by
  refine CToH ok_lw_reply (by decide +kernel) rfl rfl ?_
  refine w_run 4 (S' := (4, [(0, vR (some x)), (1, vI p0), (2, vR (some o))], [vI p0, vR (some x), vI 0, vR (some o)], σ, 0, 0)) rfl ?_
  refine w_callV (st := [vI 0, vR (some o)]) [vI p0] rfl ml_11_48 rfl rfl hx rfl rfl rfl (by simp only [RM]; omega) (by simp only [RM]; show 8 + (7 + 11) + _ ≤ _; omega) rfl (by simp only [RM]; omega) (by simp only [RM]; omega) hc ?_ ?_
  · intro X9 s9 h9
    rcases hX X9 s9 h9 with rfl | rfl
    · refine x_catch [] (0, 9, 12, 13) [(0, 9, 15, 15)] rfl rfl (fun _ h => absurd h List.not_mem_nil) rfl (by decide) (fun q => ?_)
      show WG _ _ _ _ _ _ _ (12, [(0, vR (some x)), (1, vI p0), (2, vR (some o))], [vR (some q)], s9, 0 + mc, 0 + ms)
      refine w_run 2 (S' := (14, [(3, vR (some q)), (0, vR (some x)), (1, vI p0), (2, vR (some o))], [vI 1], s9, 0 + mc, 0 + ms)) rfl ?_
      exact w_iret rfl (Or.inl rfl) (by omega) (by omega) (Or.inr (Or.inl (⟨h9, rfl⟩)))
    · refine x_catch [(0, 9, 12, 13)] (0, 9, 15, 15) [] rfl rfl (List.forall_mem_cons.mpr ⟨⟨"java/lang/IllegalArgumentException", by decide, by decide⟩, fun _ h => absurd h List.not_mem_nil⟩) rfl (by decide) (fun q => ?_)
      show WG _ _ _ _ _ _ _ (15, [(0, vR (some x)), (1, vI p0), (2, vR (some o))], [vR (some q)], s9, 0 + mc, 0 + ms)
      refine w_run 2 (S' := (17, [(3, vR (some q)), (0, vR (some x)), (1, vI p0), (2, vR (some o))], [vI 2], s9, 0 + mc, 0 + ms)) rfl ?_
      exact w_iret rfl (Or.inl rfl) (by omega) (by omega) (Or.inr (Or.inr (⟨h9, rfl⟩)))
  · intro r9 s9 q9
    obtain ⟨v, rfl, q9⟩ := q9
    have ho9 := ho _ _ q9
    show WG _ _ _ _ _ _ _ (7, [(0, vR (some x)), (1, vI p0), (2, vR (some o))], [vI v, vI 0, vR (some o)], s9, 0 + mc, 0 + ms)
    refine w_run 1 (S' := (8, [(0, vR (some x)), (1, vI p0), (2, vR (some o))], [vL v.toInt64, vI 0, vR (some o)], s9, 0 + mc, 0 + ms)) rfl ?_
    refine w_last rfl rfl ho9 (vp_in_nI (n := 0) (by decide) (by decide)) ?_
    show WG _ _ _ _ _ _ _ (9, [(0, vR (some x)), (1, vI p0), (2, vR (some o))], [], sJ s9 o 0 v.toInt64, 0 + mc, 0 + ms)
    refine w_run 2 (S' := (19, [(0, vR (some x)), (1, vI p0), (2, vR (some o))], [vI 0], sJ s9 o 0 v.toInt64, 0 + mc, 0 + ms)) rfl ?_
    exact w_iret rfl (Or.inl rfl) (by omega) (by omega) (Or.inl ⟨v, s9, q9, rfl, rfl⟩)
set_option maxHeartbeats 4000000 in
theorem c_lw_free (l : Launch) (E : FE) (d : Nat) (σ : Sg) (x : Nat) (p0 p1 : Int32) (o : Nat) (mc ms : Nat) (Q : Int32 → Sg → Prop) (XQ : String → Sg → Prop) (hd : 1 ≤ d) (hx : σ.2.2.2 x = 1) (hc : CT l E (d - 1) 57 [vR (some x), vI p0, vI p1] σ mc ms (fun r s => ∃ v, r = some (vI v) ∧ Q v s) XQ) (hX : ∀ X s, XQ X s → X = "java/lang/IllegalArgumentException" ∨ X = "java/lang/IllegalStateException") (ho : ∀ v s, Q v s → s.2.2.2 o = 90) : CT l E d 125 [vR (some x), vI p0, vI p1, vR (some o)] σ mc ms (fun r s => (∃ v s0, Q v s0 ∧ r = some (vI 0) ∧ s = sJ s0 o 0 (if v = 0 then 0 else 1)) ∨ (XQ "java/lang/IllegalArgumentException" s ∧ r = some (vI 1)) ∨ (XQ "java/lang/IllegalStateException" s ∧ r = some (vI 2))) (fun _ _ => False) := by
  refine CToH ok_lw_free (by decide +kernel) rfl rfl ?_
  refine w_run 5 (S' := (5, [(0, vR (some x)), (1, vI p0), (2, vI p1), (3, vR (some o))], [vI p1, vI p0, vR (some x), vI 0, vR (some o)], σ, 0, 0)) rfl ?_
  refine w_callV (st := [vI 0, vR (some o)]) [vI p0, vI p1] rfl ml_11_51 rfl rfl hx rfl rfl rfl (by simp only [RM]; omega) (by simp only [RM]; show 8 + (6 + 11) + _ ≤ _; omega) rfl (by simp only [RM]; omega) (by simp only [RM]; omega) hc ?_ ?_
  · intro X9 s9 h9
    rcases hX X9 s9 h9 with rfl | rfl
    · refine x_catch [] (0, 17, 20, 13) [(0, 17, 24, 15)] rfl rfl (fun _ h => absurd h List.not_mem_nil) rfl (by decide) (fun q => ?_)
      show WG _ _ _ _ _ _ _ (20, [(0, vR (some x)), (1, vI p0), (2, vI p1), (3, vR (some o))], [vR (some q)], s9, 0 + mc, 0 + ms)
      refine w_run 2 (S' := (23, [(4, vR (some q)), (0, vR (some x)), (1, vI p0), (2, vI p1), (3, vR (some o))], [vI 1], s9, 0 + mc, 0 + ms)) rfl ?_
      exact w_iret rfl (Or.inl rfl) (by omega) (by omega) (Or.inr (Or.inl (⟨h9, rfl⟩)))
    · refine x_catch [(0, 17, 20, 13)] (0, 17, 24, 15) [] rfl rfl (List.forall_mem_cons.mpr ⟨⟨"java/lang/IllegalArgumentException", by decide, by decide⟩, fun _ h => absurd h List.not_mem_nil⟩) rfl (by decide) (fun q => ?_)
      show WG _ _ _ _ _ _ _ (24, [(0, vR (some x)), (1, vI p0), (2, vI p1), (3, vR (some o))], [vR (some q)], s9, 0 + mc, 0 + ms)
      refine w_run 2 (S' := (27, [(4, vR (some q)), (0, vR (some x)), (1, vI p0), (2, vI p1), (3, vR (some o))], [vI 2], s9, 0 + mc, 0 + ms)) rfl ?_
      exact w_iret rfl (Or.inl rfl) (by omega) (by omega) (Or.inr (Or.inr (⟨h9, rfl⟩)))
  · intro r9 s9 q9
    obtain ⟨v, rfl, q9⟩ := q9
    have ho9 := ho _ _ q9
    show WG _ _ _ _ _ _ _ (8, [(0, vR (some x)), (1, vI p0), (2, vI p1), (3, vR (some o))], [vI v, vI 0, vR (some o)], s9, 0 + mc, 0 + ms)
    refine w_if_eq rfl (fun c1 => ?_) (fun c1 => ?_)
    · refine w_run 1 (S' := (16, [(0, vR (some x)), (1, vI p0), (2, vI p1), (3, vR (some o))], [vL 0, vI 0, vR (some o)], s9, 0 + mc, 0 + ms)) rfl ?_
      refine w_last rfl rfl ho9 (vp_in_nI (n := 0) (by decide) (by decide)) ?_
      show WG _ _ _ _ _ _ _ (17, [(0, vR (some x)), (1, vI p0), (2, vI p1), (3, vR (some o))], [], sJ s9 o 0 0, 0 + mc, 0 + ms)
      refine w_run 2 (S' := (29, [(0, vR (some x)), (1, vI p0), (2, vI p1), (3, vR (some o))], [vI 0], sJ s9 o 0 0, 0 + mc, 0 + ms)) rfl ?_
      exact w_iret rfl (Or.inl rfl) (by omega) (by omega) (Or.inl ⟨v, s9, q9, rfl, by rw [if_pos c1]⟩)
    · refine w_run 2 (S' := (16, [(0, vR (some x)), (1, vI p0), (2, vI p1), (3, vR (some o))], [vL 1, vI 0, vR (some o)], s9, 0 + mc, 0 + ms)) rfl ?_
      refine w_last rfl rfl ho9 (vp_in_nI (n := 0) (by decide) (by decide)) ?_
      show WG _ _ _ _ _ _ _ (17, [(0, vR (some x)), (1, vI p0), (2, vI p1), (3, vR (some o))], [], sJ s9 o 0 1, 0 + mc, 0 + ms)
      refine w_run 2 (S' := (29, [(0, vR (some x)), (1, vI p0), (2, vI p1), (3, vR (some o))], [vI 0], sJ s9 o 0 1, 0 + mc, 0 + ms)) rfl ?_
      exact w_iret rfl (Or.inl rfl) (by omega) (by omega) (Or.inl ⟨v, s9, q9, rfl, by rw [if_neg c1]⟩)
set_option maxHeartbeats 4000000 in
theorem c_lw_read (l : Launch) (E : FE) (d : Nat) (σ : Sg) (x : Nat) (p0 p1 p2 p3 : Int32) (o : Nat) (mc ms : Nat) (Q : Int32 → Sg → Prop) (XQ : String → Sg → Prop) (hd : 1 ≤ d) (hx : σ.2.2.2 x = 1) (hc : CT l E (d - 1) 58 [vR (some x), vI p0, vI p1, vI p2, vI p3] σ mc ms (fun r s => ∃ v, r = some (vI v) ∧ Q v s) XQ) (hX : ∀ X s, XQ X s → X = "java/lang/IllegalArgumentException" ∨ X = "java/lang/IllegalStateException" ∨ X = "java/util/NoSuchElementException") (ho : ∀ v s, Q v s → s.2.2.2 o = 90) : CT l E d 126 [vR (some x), vI p0, vI p1, vI p2, vI p3, vR (some o)] σ mc ms (fun r s => (∃ v s0, Q v s0 ∧ r = some (vI 0) ∧ s = sJ s0 o 0 v.toInt64) ∨ (XQ "java/lang/IllegalArgumentException" s ∧ r = some (vI 1)) ∨ (XQ "java/lang/IllegalStateException" s ∧ r = some (vI 2)) ∨ (XQ "java/util/NoSuchElementException" s ∧ r = some (vI 3))) (fun _ _ => False) := by
  refine CToH ok_lw_read (by decide +kernel) rfl rfl ?_
  refine w_run 7 (S' := (9, [(0, vR (some x)), (1, vI p0), (2, vI p1), (3, vI p2), (4, vI p3), (5, vR (some o))], [vI p3, vI p2, vI p1, vI p0, vR (some x), vI 0, vR (some o)], σ, 0, 0)) rfl ?_
  refine w_callV (st := [vI 0, vR (some o)]) [vI p0, vI p1, vI p2, vI p3] rfl ml_11_54 rfl rfl hx rfl rfl rfl (by simp only [RM]; omega) (by simp only [RM]; show 8 + (6 + 11) + _ ≤ _; omega) rfl (by simp only [RM]; omega) (by simp only [RM]; omega) hc ?_ ?_
  · intro X9 s9 h9
    rcases hX X9 s9 h9 with rfl | rfl | rfl
    · refine x_catch [] (0, 14, 17, 13) [(0, 14, 21, 15), (0, 14, 25, 46)] rfl rfl (fun _ h => absurd h List.not_mem_nil) rfl (by decide) (fun q => ?_)
      show WG _ _ _ _ _ _ _ (17, [(0, vR (some x)), (1, vI p0), (2, vI p1), (3, vI p2), (4, vI p3), (5, vR (some o))], [vR (some q)], s9, 0 + mc, 0 + ms)
      refine w_run 2 (S' := (20, [(6, vR (some q)), (0, vR (some x)), (1, vI p0), (2, vI p1), (3, vI p2), (4, vI p3), (5, vR (some o))], [vI 1], s9, 0 + mc, 0 + ms)) rfl ?_
      exact w_iret rfl (Or.inl rfl) (by omega) (by omega) (Or.inr (Or.inl (⟨h9, rfl⟩)))
    · refine x_catch [(0, 14, 17, 13)] (0, 14, 21, 15) [(0, 14, 25, 46)] rfl rfl (List.forall_mem_cons.mpr ⟨⟨"java/lang/IllegalArgumentException", by decide, by decide⟩, fun _ h => absurd h List.not_mem_nil⟩) rfl (by decide) (fun q => ?_)
      show WG _ _ _ _ _ _ _ (21, [(0, vR (some x)), (1, vI p0), (2, vI p1), (3, vI p2), (4, vI p3), (5, vR (some o))], [vR (some q)], s9, 0 + mc, 0 + ms)
      refine w_run 2 (S' := (24, [(6, vR (some q)), (0, vR (some x)), (1, vI p0), (2, vI p1), (3, vI p2), (4, vI p3), (5, vR (some o))], [vI 2], s9, 0 + mc, 0 + ms)) rfl ?_
      exact w_iret rfl (Or.inl rfl) (by omega) (by omega) (Or.inr (Or.inr (Or.inl (⟨h9, rfl⟩))))
    · refine x_catch [(0, 14, 17, 13), (0, 14, 21, 15)] (0, 14, 25, 46) [] rfl rfl (List.forall_mem_cons.mpr ⟨⟨"java/lang/IllegalArgumentException", by decide, by decide⟩, List.forall_mem_cons.mpr ⟨⟨"java/lang/IllegalStateException", by decide, by decide⟩, fun _ h => absurd h List.not_mem_nil⟩⟩) rfl (by decide) (fun q => ?_)
      show WG _ _ _ _ _ _ _ (25, [(0, vR (some x)), (1, vI p0), (2, vI p1), (3, vI p2), (4, vI p3), (5, vR (some o))], [vR (some q)], s9, 0 + mc, 0 + ms)
      refine w_run 2 (S' := (28, [(6, vR (some q)), (0, vR (some x)), (1, vI p0), (2, vI p1), (3, vI p2), (4, vI p3), (5, vR (some o))], [vI 3], s9, 0 + mc, 0 + ms)) rfl ?_
      exact w_iret rfl (Or.inl rfl) (by omega) (by omega) (Or.inr (Or.inr (Or.inr (⟨h9, rfl⟩))))
  · intro r9 s9 q9
    obtain ⟨v, rfl, q9⟩ := q9
    have ho9 := ho _ _ q9
    show WG _ _ _ _ _ _ _ (12, [(0, vR (some x)), (1, vI p0), (2, vI p1), (3, vI p2), (4, vI p3), (5, vR (some o))], [vI v, vI 0, vR (some o)], s9, 0 + mc, 0 + ms)
    refine w_run 1 (S' := (13, [(0, vR (some x)), (1, vI p0), (2, vI p1), (3, vI p2), (4, vI p3), (5, vR (some o))], [vL v.toInt64, vI 0, vR (some o)], s9, 0 + mc, 0 + ms)) rfl ?_
    refine w_last rfl rfl ho9 (vp_in_nI (n := 0) (by decide) (by decide)) ?_
    show WG _ _ _ _ _ _ _ (14, [(0, vR (some x)), (1, vI p0), (2, vI p1), (3, vI p2), (4, vI p3), (5, vR (some o))], [], sJ s9 o 0 v.toInt64, 0 + mc, 0 + ms)
    refine w_run 2 (S' := (30, [(0, vR (some x)), (1, vI p0), (2, vI p1), (3, vI p2), (4, vI p3), (5, vR (some o))], [vI 0], sJ s9 o 0 v.toInt64, 0 + mc, 0 + ms)) rfl ?_
    exact w_iret rfl (Or.inl rfl) (by omega) (by omega) (Or.inl ⟨v, s9, q9, rfl, rfl⟩)
set_option maxHeartbeats 4000000 in
theorem c_lw_hold (l : Launch) (E : FE) (d : Nat) (σ : Sg) (x : Nat) (p0 p1 p2 : Int32) (o : Nat) (mc ms : Nat) (Q : Int32 → Sg → Prop) (XQ : String → Sg → Prop) (hd : 1 ≤ d) (hx : σ.2.2.2 x = 1) (hc : CT l E (d - 1) 59 [vR (some x), vI p0, vI p1, vI p2] σ mc ms (fun r s => ∃ v, r = some (vI v) ∧ Q v s) XQ) (hX : ∀ X s, XQ X s → X = "java/lang/IllegalArgumentException" ∨ X = "java/lang/IllegalStateException") (ho : ∀ v s, Q v s → s.2.2.2 o = 90) : CT l E d 127 [vR (some x), vI p0, vI p1, vI p2, vR (some o)] σ mc ms (fun r s => (∃ v s0, Q v s0 ∧ r = some (vI 0) ∧ s = sJ s0 o 0 (if v = 0 then 0 else 1)) ∨ (XQ "java/lang/IllegalArgumentException" s ∧ r = some (vI 1)) ∨ (XQ "java/lang/IllegalStateException" s ∧ r = some (vI 2))) (fun _ _ => False) := by
  refine CToH ok_lw_hold (by decide +kernel) rfl rfl ?_
  refine w_run 6 (S' := (7, [(0, vR (some x)), (1, vI p0), (2, vI p1), (3, vI p2), (4, vR (some o))], [vI p2, vI p1, vI p0, vR (some x), vI 0, vR (some o)], σ, 0, 0)) rfl ?_
  refine w_callV (st := [vI 0, vR (some o)]) [vI p0, vI p1, vI p2] rfl ml_11_58 rfl rfl hx rfl rfl rfl (by simp only [RM]; omega) (by simp only [RM]; show 8 + (4 + 11) + _ ≤ _; omega) rfl (by simp only [RM]; omega) (by simp only [RM]; omega) hc ?_ ?_
  · intro X9 s9 h9
    rcases hX X9 s9 h9 with rfl | rfl
    · refine x_catch [] (0, 19, 22, 13) [(0, 19, 26, 15)] rfl rfl (fun _ h => absurd h List.not_mem_nil) rfl (by decide) (fun q => ?_)
      show WG _ _ _ _ _ _ _ (22, [(0, vR (some x)), (1, vI p0), (2, vI p1), (3, vI p2), (4, vR (some o))], [vR (some q)], s9, 0 + mc, 0 + ms)
      refine w_run 2 (S' := (25, [(5, vR (some q)), (0, vR (some x)), (1, vI p0), (2, vI p1), (3, vI p2), (4, vR (some o))], [vI 1], s9, 0 + mc, 0 + ms)) rfl ?_
      exact w_iret rfl (Or.inl rfl) (by omega) (by omega) (Or.inr (Or.inl (⟨h9, rfl⟩)))
    · refine x_catch [(0, 19, 22, 13)] (0, 19, 26, 15) [] rfl rfl (List.forall_mem_cons.mpr ⟨⟨"java/lang/IllegalArgumentException", by decide, by decide⟩, fun _ h => absurd h List.not_mem_nil⟩) rfl (by decide) (fun q => ?_)
      show WG _ _ _ _ _ _ _ (26, [(0, vR (some x)), (1, vI p0), (2, vI p1), (3, vI p2), (4, vR (some o))], [vR (some q)], s9, 0 + mc, 0 + ms)
      refine w_run 2 (S' := (29, [(5, vR (some q)), (0, vR (some x)), (1, vI p0), (2, vI p1), (3, vI p2), (4, vR (some o))], [vI 2], s9, 0 + mc, 0 + ms)) rfl ?_
      exact w_iret rfl (Or.inl rfl) (by omega) (by omega) (Or.inr (Or.inr (⟨h9, rfl⟩)))
  · intro r9 s9 q9
    obtain ⟨v, rfl, q9⟩ := q9
    have ho9 := ho _ _ q9
    show WG _ _ _ _ _ _ _ (10, [(0, vR (some x)), (1, vI p0), (2, vI p1), (3, vI p2), (4, vR (some o))], [vI v, vI 0, vR (some o)], s9, 0 + mc, 0 + ms)
    refine w_if_eq rfl (fun c1 => ?_) (fun c1 => ?_)
    · refine w_run 1 (S' := (18, [(0, vR (some x)), (1, vI p0), (2, vI p1), (3, vI p2), (4, vR (some o))], [vL 0, vI 0, vR (some o)], s9, 0 + mc, 0 + ms)) rfl ?_
      refine w_last rfl rfl ho9 (vp_in_nI (n := 0) (by decide) (by decide)) ?_
      show WG _ _ _ _ _ _ _ (19, [(0, vR (some x)), (1, vI p0), (2, vI p1), (3, vI p2), (4, vR (some o))], [], sJ s9 o 0 0, 0 + mc, 0 + ms)
      refine w_run 2 (S' := (31, [(0, vR (some x)), (1, vI p0), (2, vI p1), (3, vI p2), (4, vR (some o))], [vI 0], sJ s9 o 0 0, 0 + mc, 0 + ms)) rfl ?_
      exact w_iret rfl (Or.inl rfl) (by omega) (by omega) (Or.inl ⟨v, s9, q9, rfl, by rw [if_pos c1]⟩)
    · refine w_run 2 (S' := (18, [(0, vR (some x)), (1, vI p0), (2, vI p1), (3, vI p2), (4, vR (some o))], [vL 1, vI 0, vR (some o)], s9, 0 + mc, 0 + ms)) rfl ?_
      refine w_last rfl rfl ho9 (vp_in_nI (n := 0) (by decide) (by decide)) ?_
      show WG _ _ _ _ _ _ _ (19, [(0, vR (some x)), (1, vI p0), (2, vI p1), (3, vI p2), (4, vR (some o))], [], sJ s9 o 0 1, 0 + mc, 0 + ms)
      refine w_run 2 (S' := (31, [(0, vR (some x)), (1, vI p0), (2, vI p1), (3, vI p2), (4, vR (some o))], [vI 0], sJ s9 o 0 1, 0 + mc, 0 + ms)) rfl ?_
      exact w_iret rfl (Or.inl rfl) (by omega) (by omega) (Or.inl ⟨v, s9, q9, rfl, by rw [if_neg c1]⟩)
set_option maxHeartbeats 4000000 in
theorem c_lw_drop (l : Launch) (E : FE) (d : Nat) (σ : Sg) (x : Nat) (p0 p1 p2 : Int32) (o : Nat) (mc ms : Nat) (Q : Int32 → Sg → Prop) (XQ : String → Sg → Prop) (hd : 1 ≤ d) (hx : σ.2.2.2 x = 1) (hc : CT l E (d - 1) 60 [vR (some x), vI p0, vI p1, vI p2] σ mc ms (fun r s => ∃ v, r = some (vI v) ∧ Q v s) XQ) (hX : ∀ X s, XQ X s → X = "java/lang/IllegalArgumentException" ∨ X = "java/lang/IllegalStateException") (ho : ∀ v s, Q v s → s.2.2.2 o = 90) : CT l E d 128 [vR (some x), vI p0, vI p1, vI p2, vR (some o)] σ mc ms (fun r s => (∃ v s0, Q v s0 ∧ r = some (vI 0) ∧ s = sJ s0 o 0 (if v = 0 then 0 else 1)) ∨ (XQ "java/lang/IllegalArgumentException" s ∧ r = some (vI 1)) ∨ (XQ "java/lang/IllegalStateException" s ∧ r = some (vI 2))) (fun _ _ => False) := by
  refine CToH ok_lw_drop (by decide +kernel) rfl rfl ?_
  refine w_run 6 (S' := (7, [(0, vR (some x)), (1, vI p0), (2, vI p1), (3, vI p2), (4, vR (some o))], [vI p2, vI p1, vI p0, vR (some x), vI 0, vR (some o)], σ, 0, 0)) rfl ?_
  refine w_callV (st := [vI 0, vR (some o)]) [vI p0, vI p1, vI p2] rfl ml_11_62 rfl rfl hx rfl rfl rfl (by simp only [RM]; omega) (by simp only [RM]; show 8 + (4 + 11) + _ ≤ _; omega) rfl (by simp only [RM]; omega) (by simp only [RM]; omega) hc ?_ ?_
  · intro X9 s9 h9
    rcases hX X9 s9 h9 with rfl | rfl
    · refine x_catch [] (0, 19, 22, 13) [(0, 19, 26, 15)] rfl rfl (fun _ h => absurd h List.not_mem_nil) rfl (by decide) (fun q => ?_)
      show WG _ _ _ _ _ _ _ (22, [(0, vR (some x)), (1, vI p0), (2, vI p1), (3, vI p2), (4, vR (some o))], [vR (some q)], s9, 0 + mc, 0 + ms)
      refine w_run 2 (S' := (25, [(5, vR (some q)), (0, vR (some x)), (1, vI p0), (2, vI p1), (3, vI p2), (4, vR (some o))], [vI 1], s9, 0 + mc, 0 + ms)) rfl ?_
      exact w_iret rfl (Or.inl rfl) (by omega) (by omega) (Or.inr (Or.inl (⟨h9, rfl⟩)))
    · refine x_catch [(0, 19, 22, 13)] (0, 19, 26, 15) [] rfl rfl (List.forall_mem_cons.mpr ⟨⟨"java/lang/IllegalArgumentException", by decide, by decide⟩, fun _ h => absurd h List.not_mem_nil⟩) rfl (by decide) (fun q => ?_)
      show WG _ _ _ _ _ _ _ (26, [(0, vR (some x)), (1, vI p0), (2, vI p1), (3, vI p2), (4, vR (some o))], [vR (some q)], s9, 0 + mc, 0 + ms)
      refine w_run 2 (S' := (29, [(5, vR (some q)), (0, vR (some x)), (1, vI p0), (2, vI p1), (3, vI p2), (4, vR (some o))], [vI 2], s9, 0 + mc, 0 + ms)) rfl ?_
      exact w_iret rfl (Or.inl rfl) (by omega) (by omega) (Or.inr (Or.inr (⟨h9, rfl⟩)))
  · intro r9 s9 q9
    obtain ⟨v, rfl, q9⟩ := q9
    have ho9 := ho _ _ q9
    show WG _ _ _ _ _ _ _ (10, [(0, vR (some x)), (1, vI p0), (2, vI p1), (3, vI p2), (4, vR (some o))], [vI v, vI 0, vR (some o)], s9, 0 + mc, 0 + ms)
    refine w_if_eq rfl (fun c1 => ?_) (fun c1 => ?_)
    · refine w_run 1 (S' := (18, [(0, vR (some x)), (1, vI p0), (2, vI p1), (3, vI p2), (4, vR (some o))], [vL 0, vI 0, vR (some o)], s9, 0 + mc, 0 + ms)) rfl ?_
      refine w_last rfl rfl ho9 (vp_in_nI (n := 0) (by decide) (by decide)) ?_
      show WG _ _ _ _ _ _ _ (19, [(0, vR (some x)), (1, vI p0), (2, vI p1), (3, vI p2), (4, vR (some o))], [], sJ s9 o 0 0, 0 + mc, 0 + ms)
      refine w_run 2 (S' := (31, [(0, vR (some x)), (1, vI p0), (2, vI p1), (3, vI p2), (4, vR (some o))], [vI 0], sJ s9 o 0 0, 0 + mc, 0 + ms)) rfl ?_
      exact w_iret rfl (Or.inl rfl) (by omega) (by omega) (Or.inl ⟨v, s9, q9, rfl, by rw [if_pos c1]⟩)
    · refine w_run 2 (S' := (18, [(0, vR (some x)), (1, vI p0), (2, vI p1), (3, vI p2), (4, vR (some o))], [vL 1, vI 0, vR (some o)], s9, 0 + mc, 0 + ms)) rfl ?_
      refine w_last rfl rfl ho9 (vp_in_nI (n := 0) (by decide) (by decide)) ?_
      show WG _ _ _ _ _ _ _ (19, [(0, vR (some x)), (1, vI p0), (2, vI p1), (3, vI p2), (4, vR (some o))], [], sJ s9 o 0 1, 0 + mc, 0 + ms)
      refine w_run 2 (S' := (31, [(0, vR (some x)), (1, vI p0), (2, vI p1), (3, vI p2), (4, vR (some o))], [vI 0], sJ s9 o 0 1, 0 + mc, 0 + ms)) rfl ?_
      exact w_iret rfl (Or.inl rfl) (by omega) (by omega) (Or.inl ⟨v, s9, q9, rfl, by rw [if_neg c1]⟩)
set_option maxHeartbeats 4000000 in
theorem c_lw_watch (l : Launch) (E : FE) (d : Nat) (σ : Sg) (x : Nat) (p0 p1 p2 : Int32) (o : Nat) (mc ms : Nat) (Q : Int32 → Sg → Prop) (XQ : String → Sg → Prop) (hd : 1 ≤ d) (hx : σ.2.2.2 x = 1) (hc : CT l E (d - 1) 61 [vR (some x), vI p0, vI p1, vI p2] σ mc ms (fun r s => ∃ v, r = some (vI v) ∧ Q v s) XQ) (hX : ∀ X s, XQ X s → X = "java/lang/IllegalArgumentException" ∨ X = "java/lang/IllegalStateException") (ho : ∀ v s, Q v s → s.2.2.2 o = 90) : CT l E d 129 [vR (some x), vI p0, vI p1, vI p2, vR (some o)] σ mc ms (fun r s => (∃ v s0, Q v s0 ∧ r = some (vI 0) ∧ s = sJ s0 o 0 (if v = 0 then 0 else 1)) ∨ (XQ "java/lang/IllegalArgumentException" s ∧ r = some (vI 1)) ∨ (XQ "java/lang/IllegalStateException" s ∧ r = some (vI 2))) (fun _ _ => False) := by
  refine CToH ok_lw_watch (by decide +kernel) rfl rfl ?_
  refine w_run 6 (S' := (7, [(0, vR (some x)), (1, vI p0), (2, vI p1), (3, vI p2), (4, vR (some o))], [vI p2, vI p1, vI p0, vR (some x), vI 0, vR (some o)], σ, 0, 0)) rfl ?_
  refine w_callV (st := [vI 0, vR (some o)]) [vI p0, vI p1, vI p2] rfl ml_11_65 rfl rfl hx rfl rfl rfl (by simp only [RM]; omega) (by simp only [RM]; show 8 + (5 + 11) + _ ≤ _; omega) rfl (by simp only [RM]; omega) (by simp only [RM]; omega) hc ?_ ?_
  · intro X9 s9 h9
    rcases hX X9 s9 h9 with rfl | rfl
    · refine x_catch [] (0, 19, 22, 13) [(0, 19, 26, 15)] rfl rfl (fun _ h => absurd h List.not_mem_nil) rfl (by decide) (fun q => ?_)
      show WG _ _ _ _ _ _ _ (22, [(0, vR (some x)), (1, vI p0), (2, vI p1), (3, vI p2), (4, vR (some o))], [vR (some q)], s9, 0 + mc, 0 + ms)
      refine w_run 2 (S' := (25, [(5, vR (some q)), (0, vR (some x)), (1, vI p0), (2, vI p1), (3, vI p2), (4, vR (some o))], [vI 1], s9, 0 + mc, 0 + ms)) rfl ?_
      exact w_iret rfl (Or.inl rfl) (by omega) (by omega) (Or.inr (Or.inl (⟨h9, rfl⟩)))
    · refine x_catch [(0, 19, 22, 13)] (0, 19, 26, 15) [] rfl rfl (List.forall_mem_cons.mpr ⟨⟨"java/lang/IllegalArgumentException", by decide, by decide⟩, fun _ h => absurd h List.not_mem_nil⟩) rfl (by decide) (fun q => ?_)
      show WG _ _ _ _ _ _ _ (26, [(0, vR (some x)), (1, vI p0), (2, vI p1), (3, vI p2), (4, vR (some o))], [vR (some q)], s9, 0 + mc, 0 + ms)
      refine w_run 2 (S' := (29, [(5, vR (some q)), (0, vR (some x)), (1, vI p0), (2, vI p1), (3, vI p2), (4, vR (some o))], [vI 2], s9, 0 + mc, 0 + ms)) rfl ?_
      exact w_iret rfl (Or.inl rfl) (by omega) (by omega) (Or.inr (Or.inr (⟨h9, rfl⟩)))
  · intro r9 s9 q9
    obtain ⟨v, rfl, q9⟩ := q9
    have ho9 := ho _ _ q9
    show WG _ _ _ _ _ _ _ (10, [(0, vR (some x)), (1, vI p0), (2, vI p1), (3, vI p2), (4, vR (some o))], [vI v, vI 0, vR (some o)], s9, 0 + mc, 0 + ms)
    refine w_if_eq rfl (fun c1 => ?_) (fun c1 => ?_)
    · refine w_run 1 (S' := (18, [(0, vR (some x)), (1, vI p0), (2, vI p1), (3, vI p2), (4, vR (some o))], [vL 0, vI 0, vR (some o)], s9, 0 + mc, 0 + ms)) rfl ?_
      refine w_last rfl rfl ho9 (vp_in_nI (n := 0) (by decide) (by decide)) ?_
      show WG _ _ _ _ _ _ _ (19, [(0, vR (some x)), (1, vI p0), (2, vI p1), (3, vI p2), (4, vR (some o))], [], sJ s9 o 0 0, 0 + mc, 0 + ms)
      refine w_run 2 (S' := (31, [(0, vR (some x)), (1, vI p0), (2, vI p1), (3, vI p2), (4, vR (some o))], [vI 0], sJ s9 o 0 0, 0 + mc, 0 + ms)) rfl ?_
      exact w_iret rfl (Or.inl rfl) (by omega) (by omega) (Or.inl ⟨v, s9, q9, rfl, by rw [if_pos c1]⟩)
    · refine w_run 2 (S' := (18, [(0, vR (some x)), (1, vI p0), (2, vI p1), (3, vI p2), (4, vR (some o))], [vL 1, vI 0, vR (some o)], s9, 0 + mc, 0 + ms)) rfl ?_
      refine w_last rfl rfl ho9 (vp_in_nI (n := 0) (by decide) (by decide)) ?_
      show WG _ _ _ _ _ _ _ (19, [(0, vR (some x)), (1, vI p0), (2, vI p1), (3, vI p2), (4, vR (some o))], [], sJ s9 o 0 1, 0 + mc, 0 + ms)
      refine w_run 2 (S' := (31, [(0, vR (some x)), (1, vI p0), (2, vI p1), (3, vI p2), (4, vR (some o))], [vI 0], sJ s9 o 0 1, 0 + mc, 0 + ms)) rfl ?_
      exact w_iret rfl (Or.inl rfl) (by omega) (by omega) (Or.inl ⟨v, s9, q9, rfl, by rw [if_neg c1]⟩)
set_option maxHeartbeats 4000000 in
theorem c_lw_count (l : Launch) (E : FE) (d : Nat) (σ : Sg) (x : Nat) (p0 p1 : Int32) (o : Nat) (mc ms : Nat) (Q : Int32 → Sg → Prop) (XQ : String → Sg → Prop) (hd : 1 ≤ d) (hx : σ.2.2.2 x = 1) (hc : CT l E (d - 1) 62 [vR (some x), vI p0, vI p1] σ mc ms (fun r s => ∃ v, r = some (vI v) ∧ Q v s) XQ) (hX : ∀ X s, XQ X s → X = "java/lang/IllegalArgumentException" ∨ X = "java/lang/IllegalStateException") (ho : ∀ v s, Q v s → s.2.2.2 o = 90) : CT l E d 130 [vR (some x), vI p0, vI p1, vR (some o)] σ mc ms (fun r s => (∃ v s0, Q v s0 ∧ r = some (vI 0) ∧ s = sJ s0 o 0 v.toInt64) ∨ (XQ "java/lang/IllegalArgumentException" s ∧ r = some (vI 1)) ∨ (XQ "java/lang/IllegalStateException" s ∧ r = some (vI 2))) (fun _ _ => False) := by
  refine CToH ok_lw_count (by decide +kernel) rfl rfl ?_
  refine w_run 5 (S' := (5, [(0, vR (some x)), (1, vI p0), (2, vI p1), (3, vR (some o))], [vI p1, vI p0, vR (some x), vI 0, vR (some o)], σ, 0, 0)) rfl ?_
  refine w_callV (st := [vI 0, vR (some o)]) [vI p0, vI p1] rfl ml_11_68 rfl rfl hx rfl rfl rfl (by simp only [RM]; omega) (by simp only [RM]; show 8 + (4 + 11) + _ ≤ _; omega) rfl (by simp only [RM]; omega) (by simp only [RM]; omega) hc ?_ ?_
  · intro X9 s9 h9
    rcases hX X9 s9 h9 with rfl | rfl
    · refine x_catch [] (0, 10, 13, 13) [(0, 10, 17, 15)] rfl rfl (fun _ h => absurd h List.not_mem_nil) rfl (by decide) (fun q => ?_)
      show WG _ _ _ _ _ _ _ (13, [(0, vR (some x)), (1, vI p0), (2, vI p1), (3, vR (some o))], [vR (some q)], s9, 0 + mc, 0 + ms)
      refine w_run 2 (S' := (16, [(4, vR (some q)), (0, vR (some x)), (1, vI p0), (2, vI p1), (3, vR (some o))], [vI 1], s9, 0 + mc, 0 + ms)) rfl ?_
      exact w_iret rfl (Or.inl rfl) (by omega) (by omega) (Or.inr (Or.inl (⟨h9, rfl⟩)))
    · refine x_catch [(0, 10, 13, 13)] (0, 10, 17, 15) [] rfl rfl (List.forall_mem_cons.mpr ⟨⟨"java/lang/IllegalArgumentException", by decide, by decide⟩, fun _ h => absurd h List.not_mem_nil⟩) rfl (by decide) (fun q => ?_)
      show WG _ _ _ _ _ _ _ (17, [(0, vR (some x)), (1, vI p0), (2, vI p1), (3, vR (some o))], [vR (some q)], s9, 0 + mc, 0 + ms)
      refine w_run 2 (S' := (20, [(4, vR (some q)), (0, vR (some x)), (1, vI p0), (2, vI p1), (3, vR (some o))], [vI 2], s9, 0 + mc, 0 + ms)) rfl ?_
      exact w_iret rfl (Or.inl rfl) (by omega) (by omega) (Or.inr (Or.inr (⟨h9, rfl⟩)))
  · intro r9 s9 q9
    obtain ⟨v, rfl, q9⟩ := q9
    have ho9 := ho _ _ q9
    show WG _ _ _ _ _ _ _ (8, [(0, vR (some x)), (1, vI p0), (2, vI p1), (3, vR (some o))], [vI v, vI 0, vR (some o)], s9, 0 + mc, 0 + ms)
    refine w_run 1 (S' := (9, [(0, vR (some x)), (1, vI p0), (2, vI p1), (3, vR (some o))], [vL v.toInt64, vI 0, vR (some o)], s9, 0 + mc, 0 + ms)) rfl ?_
    refine w_last rfl rfl ho9 (vp_in_nI (n := 0) (by decide) (by decide)) ?_
    show WG _ _ _ _ _ _ _ (10, [(0, vR (some x)), (1, vI p0), (2, vI p1), (3, vR (some o))], [], sJ s9 o 0 v.toInt64, 0 + mc, 0 + ms)
    refine w_run 2 (S' := (22, [(0, vR (some x)), (1, vI p0), (2, vI p1), (3, vR (some o))], [vI 0], sJ s9 o 0 v.toInt64, 0 + mc, 0 + ms)) rfl ?_
    exact w_iret rfl (Or.inl rfl) (by omega) (by omega) (Or.inl ⟨v, s9, q9, rfl, rfl⟩)
set_option maxHeartbeats 4000000 in
theorem c_lw_handle (l : Launch) (E : FE) (d : Nat) (σ : Sg) (x : Nat) (p0 p1 p2 : Int32) (o : Nat) (mc ms : Nat) (Q : Int32 → Sg → Prop) (XQ : String → Sg → Prop) (hd : 1 ≤ d) (hx : σ.2.2.2 x = 1) (hc : CT l E (d - 1) 63 [vR (some x), vI p0, vI p1, vI p2] σ mc ms (fun r s => ∃ v, r = some (vI v) ∧ Q v s) XQ) (hX : ∀ X s, XQ X s → X = "java/lang/IllegalArgumentException" ∨ X = "java/lang/IllegalStateException") (ho : ∀ v s, Q v s → s.2.2.2 o = 90) : CT l E d 131 [vR (some x), vI p0, vI p1, vI p2, vR (some o)] σ mc ms (fun r s => (∃ v s0, Q v s0 ∧ r = some (vI 0) ∧ s = sJ s0 o 0 v.toInt64) ∨ (XQ "java/lang/IllegalArgumentException" s ∧ r = some (vI 1)) ∨ (XQ "java/lang/IllegalStateException" s ∧ r = some (vI 2))) (fun _ _ => False) := by
  refine CToH ok_lw_handle (by decide +kernel) rfl rfl ?_
  refine w_run 6 (S' := (7, [(0, vR (some x)), (1, vI p0), (2, vI p1), (3, vI p2), (4, vR (some o))], [vI p2, vI p1, vI p0, vR (some x), vI 0, vR (some o)], σ, 0, 0)) rfl ?_
  refine w_callV (st := [vI 0, vR (some o)]) [vI p0, vI p1, vI p2] rfl ml_11_71 rfl rfl hx rfl rfl rfl (by simp only [RM]; omega) (by simp only [RM]; show 8 + (6 + 11) + _ ≤ _; omega) rfl (by simp only [RM]; omega) (by simp only [RM]; omega) hc ?_ ?_
  · intro X9 s9 h9
    rcases hX X9 s9 h9 with rfl | rfl
    · refine x_catch [] (0, 12, 15, 13) [(0, 12, 19, 15)] rfl rfl (fun _ h => absurd h List.not_mem_nil) rfl (by decide) (fun q => ?_)
      show WG _ _ _ _ _ _ _ (15, [(0, vR (some x)), (1, vI p0), (2, vI p1), (3, vI p2), (4, vR (some o))], [vR (some q)], s9, 0 + mc, 0 + ms)
      refine w_run 2 (S' := (18, [(5, vR (some q)), (0, vR (some x)), (1, vI p0), (2, vI p1), (3, vI p2), (4, vR (some o))], [vI 1], s9, 0 + mc, 0 + ms)) rfl ?_
      exact w_iret rfl (Or.inl rfl) (by omega) (by omega) (Or.inr (Or.inl (⟨h9, rfl⟩)))
    · refine x_catch [(0, 12, 15, 13)] (0, 12, 19, 15) [] rfl rfl (List.forall_mem_cons.mpr ⟨⟨"java/lang/IllegalArgumentException", by decide, by decide⟩, fun _ h => absurd h List.not_mem_nil⟩) rfl (by decide) (fun q => ?_)
      show WG _ _ _ _ _ _ _ (19, [(0, vR (some x)), (1, vI p0), (2, vI p1), (3, vI p2), (4, vR (some o))], [vR (some q)], s9, 0 + mc, 0 + ms)
      refine w_run 2 (S' := (22, [(5, vR (some q)), (0, vR (some x)), (1, vI p0), (2, vI p1), (3, vI p2), (4, vR (some o))], [vI 2], s9, 0 + mc, 0 + ms)) rfl ?_
      exact w_iret rfl (Or.inl rfl) (by omega) (by omega) (Or.inr (Or.inr (⟨h9, rfl⟩)))
  · intro r9 s9 q9
    obtain ⟨v, rfl, q9⟩ := q9
    have ho9 := ho _ _ q9
    show WG _ _ _ _ _ _ _ (10, [(0, vR (some x)), (1, vI p0), (2, vI p1), (3, vI p2), (4, vR (some o))], [vI v, vI 0, vR (some o)], s9, 0 + mc, 0 + ms)
    refine w_run 1 (S' := (11, [(0, vR (some x)), (1, vI p0), (2, vI p1), (3, vI p2), (4, vR (some o))], [vL v.toInt64, vI 0, vR (some o)], s9, 0 + mc, 0 + ms)) rfl ?_
    refine w_last rfl rfl ho9 (vp_in_nI (n := 0) (by decide) (by decide)) ?_
    show WG _ _ _ _ _ _ _ (12, [(0, vR (some x)), (1, vI p0), (2, vI p1), (3, vI p2), (4, vR (some o))], [], sJ s9 o 0 v.toInt64, 0 + mc, 0 + ms)
    refine w_run 2 (S' := (24, [(0, vR (some x)), (1, vI p0), (2, vI p1), (3, vI p2), (4, vR (some o))], [vI 0], sJ s9 o 0 v.toInt64, 0 + mc, 0 + ms)) rfl ?_
    exact w_iret rfl (Or.inl rfl) (by omega) (by omega) (Or.inl ⟨v, s9, q9, rfl, rfl⟩)
